def itM (σ : Sig) (s : Nat) : Nat → Int := fun p => σ 78 (40 * s + p)
def rM_heights (σ : Sig) (s q f n : Int) : Int := if 0 ≤ s ∧ s < 4 ∧ 0 ≤ q ∧ q < 3 ∧ 0 ≤ n ∧ n < 21 then (if σ 75 s.toNat ≠ 0 ∧ σ 76 s.toNat ≠ q then -13 else if σ 75 s.toNat = 0 then -11 else if kH f (σ 77 s.toNat) n < n.toNat then -12 else hgtC (itM σ s.toNat) f.toNat n.toNat) else -2
def nM_heights (σ : Sig) (s q f n : Int) : Sig := if 0 ≤ s ∧ s < 4 ∧ 0 ≤ q ∧ q < 3 ∧ 0 ≤ n ∧ n < 21 ∧ σ 75 s.toNat ≠ 0 ∧ σ 76 s.toNat = q then rowS σ 55 (hgtR (σ 55) (itM σ s.toNat) f.toNat (kH f (σ 77 s.toNat) n)) else σ
theorem hgtR_in {H it : Nat → Int} {p : Nat} (h : ∀ b, 0 ≤ H b ∧ H b ≤ 9) : ∀ k b, 0 ≤ hgtR H it p k b ∧ hgtR H it p k b ≤ 9
  | 0, b => h b
  | k + 1, b => by
    have := hgtR_in (it := it) (p := p) h k b
    simp only [hgtR]
    split <;> omega
set_option maxHeartbeats 4000000 in
set_option maxRecDepth 100000 in
theorem c_X12_heights {l : Launch} {G : Gt} {ρ : Nat → Nat} {tc : Nat} {cl : Nat → Nat} {σ : Sig} {s q f n : Int} (hs : -2147483648 ≤ s ∧ s ≤ 2147483647) (hq : -2147483648 ≤ q ∧ q ≤ 2147483647) (hf : -2147483648 ≤ f ∧ f ≤ 2147483647) (hn : -2147483648 ≤ n ∧ n ≤ 2147483647) (hS : MS σ) (hT : MI σ) : MX l yX12_heights cX12_heights 8 (some .int) 3 69 G (NN tc) ρ (shp tc cl) [.ref (ρ 51), .int (iZ s), .int (iZ q), .int (iZ f), .int (iZ n)] σ (PI (fun z σ' => z = rM_heights σ s q f n ∧ σ' = nM_heights σ s q f n)) := by
  refine MX_of [some (.ref (ρ 51)), some (.int (iZ s)), some (.int (iZ q)), some (.int (iZ f)), some (.int (iZ n)), none, none, none] (by decide +kernel) rfl rfl (Nat.le_of_ble_eq_true rfl) ?_
  intro K hKl C T hRng
  subst hKl
  refine x_iload_n 1 C dX12_heights_0 rfl rfl rfl ?_
  refine x_callSe 4 C dX12_heights_1 rfl (c_X12_isSheet (by omega)) tb_6_59 tb_6_60 tb_1_20 tb_6_61 (na := 1) (by decide +kernel) rfl ⟨by decide, by decide⟩ rfl (Nat.le_of_ble_eq_true rfl) rfl (fun r1 => ?_)
  first
    | refine x_ifb_eq 32 7 C dX12_heights_4 rfl rfl (fun h4 => ?_) (fun h4 => ?_)
    | refine x_if_eq 32 7 C dX12_heights_4 rfl rfl (by omega) (fun h4 => ?_) (fun h4 => ?_)
  · refine x_bipush 34 C dX12_heights_32 rfl rfl ?_
    refine x_iret C T dX12_heights_34 ?_
    refine PI_i (by omega) ?_
    unfold rM_heights nM_heights
    first
      | (exfalso; omega)
      | (rw [if_neg (by omega), if_neg (by omega)]; exact ⟨rfl, rfl⟩)
      | (rw [if_pos (by omega), if_pos (by omega), if_neg (by omega)]; exact ⟨rfl, rfl⟩)
      | (rw [if_pos (by omega), if_neg (by omega), if_pos (by omega), if_neg (by omega)]; exact ⟨rfl, rfl⟩)
      | (have hkk : kH f (σ 77 s.toNat) n = k := by unfold kH; (try rw [e77] at *); split <;> omega
         rw [if_pos (by omega), if_neg (by omega), if_neg (by omega), if_pos (by omega), if_pos (by omega), hkk]; exact ⟨rfl, hs1⟩)
      | (have hkk : kH f (σ 77 s.toNat) n = k := by unfold kH; split <;> omega
         rw [if_pos (by omega), if_neg (by omega), if_neg (by omega), if_neg (by omega), if_pos (by omega), hkk, show n.toNat = k by omega]; exact ⟨hz1, hs1⟩)
  refine x_iload_n 8 C dX12_heights_7 rfl rfl rfl ?_
  refine x_i2l 9 C dX12_heights_8 rfl (by omega) ?_
  refine x_lconst 10 C dX12_heights_9 rfl 0 rfl ?_
  refine x_ldc2 (z := 2) 13 C tb_6_30 dX12_heights_10 rfl ?_
  refine x_callSe 16 C dX12_heights_13 rfl (c_X12_in (by omega) (by omega) (by omega)) tb_5_69 tb_5_70 tb_1_20 tb_5_71 (na := 3) (by decide +kernel) rfl ⟨by decide, by decide⟩ rfl (Nat.le_of_ble_eq_true rfl) rfl (fun r13 => ?_)
  first
    | refine x_ifb_eq 32 19 C dX12_heights_16 rfl rfl (fun h16 => ?_) (fun h16 => ?_)
    | refine x_if_eq 32 19 C dX12_heights_16 rfl rfl (by omega) (fun h16 => ?_) (fun h16 => ?_)
  · refine x_bipush 34 C dX12_heights_32 rfl rfl ?_
    refine x_iret C T dX12_heights_34 ?_
    refine PI_i (by omega) ?_
    unfold rM_heights nM_heights
    first
      | (exfalso; omega)
      | (rw [if_neg (by omega), if_neg (by omega)]; exact ⟨rfl, rfl⟩)
      | (rw [if_pos (by omega), if_pos (by omega), if_neg (by omega)]; exact ⟨rfl, rfl⟩)
      | (rw [if_pos (by omega), if_neg (by omega), if_pos (by omega), if_neg (by omega)]; exact ⟨rfl, rfl⟩)
      | (have hkk : kH f (σ 77 s.toNat) n = k := by unfold kH; (try rw [e77] at *); split <;> omega
         rw [if_pos (by omega), if_neg (by omega), if_neg (by omega), if_pos (by omega), if_pos (by omega), hkk]; exact ⟨rfl, hs1⟩)
      | (have hkk : kH f (σ 77 s.toNat) n = k := by unfold kH; split <;> omega
         rw [if_pos (by omega), if_neg (by omega), if_neg (by omega), if_neg (by omega), if_pos (by omega), hkk, show n.toNat = k by omega]; exact ⟨hz1, hs1⟩)
  refine x_iload 21 C dX12_heights_19 rfl rfl ?_
  refine x_i2l 22 C dX12_heights_21 rfl (by omega) ?_
  refine x_lconst 23 C dX12_heights_22 rfl 0 rfl ?_
  refine x_ldc2 (z := 20) 26 C tb_6_87 dX12_heights_23 rfl ?_
  refine x_callSe 29 C dX12_heights_26 rfl (c_X12_in (by omega) (by omega) (by omega)) tb_5_69 tb_5_70 tb_1_20 tb_5_71 (na := 3) (by decide +kernel) rfl ⟨by decide, by decide⟩ rfl (Nat.le_of_ble_eq_true rfl) rfl (fun r26 => ?_)
  first
    | refine x_ifb_ne 35 32 C dX12_heights_29 rfl rfl (fun h29 => ?_) (fun h29 => ?_)
    | refine x_if_ne 35 32 C dX12_heights_29 rfl rfl (by omega) (fun h29 => ?_) (fun h29 => ?_)
  rotate_left
  · refine x_bipush 34 C dX12_heights_32 rfl rfl ?_
    refine x_iret C T dX12_heights_34 ?_
    refine PI_i (by omega) ?_
    unfold rM_heights nM_heights
    first
      | (exfalso; omega)
      | (rw [if_neg (by omega), if_neg (by omega)]; exact ⟨rfl, rfl⟩)
      | (rw [if_pos (by omega), if_pos (by omega), if_neg (by omega)]; exact ⟨rfl, rfl⟩)
      | (rw [if_pos (by omega), if_neg (by omega), if_pos (by omega), if_neg (by omega)]; exact ⟨rfl, rfl⟩)
      | (have hkk : kH f (σ 77 s.toNat) n = k := by unfold kH; (try rw [e77] at *); split <;> omega
         rw [if_pos (by omega), if_neg (by omega), if_neg (by omega), if_pos (by omega), if_pos (by omega), hkk]; exact ⟨rfl, hs1⟩)
      | (have hkk : kH f (σ 77 s.toNat) n = k := by unfold kH; split <;> omega
         rw [if_pos (by omega), if_neg (by omega), if_neg (by omega), if_neg (by omega), if_pos (by omega), hkk, show n.toNat = k by omega]; exact ⟨hz1, hs1⟩)
  have hz := hS s.toNat (by omega)
  refine x_aload_n 36 C dX12_heights_35 rfl rfl rfl ?_
  refine x_getr (j := 52) 39 C rfl (lt79 (by decide)) rfl rfl (by decide) inT12 tb_4_186 rfl dX12_heights_36 rfl ?_
  refine x_iload_n 40 C dX12_heights_39 rfl rfl rfl ?_
  refine x_zald 41 C rfl (lt79 (by decide)) dX12_heights_40 rfl (by omega) (by omega) (fun r40 => ?_)
  refine x_if_eq 57 44 C dX12_heights_41 rfl rfl (by omega) (fun h41 => ?_) (fun h41 => ?_)
  · refine x_aload_n 58 C dX12_heights_57 rfl rfl rfl ?_
    refine x_getr (j := 52) 61 C rfl (lt79 (by decide)) rfl rfl (by decide) inT12 tb_4_186 rfl dX12_heights_58 rfl ?_
    refine x_iload_n 62 C dX12_heights_61 rfl rfl rfl ?_
    refine x_zald 63 C rfl (lt79 (by decide)) dX12_heights_62 rfl (by omega) (by omega) (fun r62 => ?_)
    refine x_if_ne 69 66 C dX12_heights_63 rfl rfl (by omega) (fun h63 => ?_) (fun h63 => ?_)
    · refine x_iconst 70 C dX12_heights_69 rfl ?_
      refine x_istore_5 72 C dX12_heights_70 rfl rfl ?_
      refine x_iconst 73 C dX12_heights_72 rfl ?_
      refine x_istore_6 75 C dX12_heights_73 rfl rfl ?_
      have L75 : ∀ (m : Nat) (k : Nat) (y z : Int) (s1 : Sig), m = n.toNat - k → ((k : Int) ≤ n ∧ y = k ∧ z = hgtC (itM σ s.toNat) f.toNat k ∧ s1 = rowS σ 55 (hgtR (σ 55) (itM σ s.toNat) f.toNat k) ∧ (k = 0 ∨ (0 ≤ f ∧ f + 2 * k ≤ σ 77 s.toNat))) → Ex K G (NN tc) ρ (shp tc cl) 75 [some (.ref (ρ 51)), some (.int (iZ s)), some (.int (iZ q)), some (.int (iZ f)), some (.int (iZ n)), some (.int (iZ z)), some (.int (iZ y)), none] [] s1 := by
        intro m
        induction m using Nat.strongRecOn with
        | ind m ih =>
          intro k y z s1 hm hinv
          obtain ⟨hk, rfl, hz1, hs1, hk2⟩ := hinv
          have hc := hgtC_in (itM σ s.toNat) f.toNat k
          have e77 : s1 77 s.toNat = σ 77 s.toNat := by rw [hs1]; exact congrFun (rowS_ne (by omega)) _
          have e78 : s1 78 = σ 78 := by rw [hs1]; exact rowS_ne (by omega)
          have e55 : s1 55 = hgtR (σ 55) (itM σ s.toNat) f.toNat k := by rw [hs1]; exact rowS_eq
          have hH := hgtR_in (H := σ 55) (it := itM σ s.toNat) (p := f.toNat) (fun b => (hT.2.2.2.2 b).1) k
          refine x_iload 77 C dX12_heights_75 rfl rfl ?_
          refine x_iload 79 C dX12_heights_77 rfl rfl ?_
          refine x_icmp_ge 159 82 C dX12_heights_79 rfl rfl (by omega) (by omega) (fun h79 => ?_) (fun h79 => ?_)
          · refine x_iload 161 C dX12_heights_159 rfl rfl ?_
            refine x_iret C T dX12_heights_161 ?_
            refine PI_i (by omega) ?_
            unfold rM_heights nM_heights
            first
              | (exfalso; omega)
              | (rw [if_neg (by omega), if_neg (by omega)]; exact ⟨rfl, rfl⟩)
              | (rw [if_pos (by omega), if_pos (by omega), if_neg (by omega)]; exact ⟨rfl, rfl⟩)
              | (rw [if_pos (by omega), if_neg (by omega), if_pos (by omega), if_neg (by omega)]; exact ⟨rfl, rfl⟩)
              | (have hkk : kH f (σ 77 s.toNat) n = k := by unfold kH; (try rw [e77] at *); split <;> omega
                 rw [if_pos (by omega), if_neg (by omega), if_neg (by omega), if_pos (by omega), if_pos (by omega), hkk]; exact ⟨rfl, hs1⟩)
              | (have hkk : kH f (σ 77 s.toNat) n = k := by unfold kH; split <;> omega
                 rw [if_pos (by omega), if_neg (by omega), if_neg (by omega), if_neg (by omega), if_pos (by omega), hkk, show n.toNat = k by omega]; exact ⟨hz1, hs1⟩)
          
          refine x_iload_n 83 C dX12_heights_82 rfl rfl rfl ?_
          refine x_if_lt 103 86 C dX12_heights_83 rfl rfl (by omega) (fun h83 => ?_) (fun h83 => ?_)
          · try rw [e77] at *
            refine x_bipush 105 C dX12_heights_103 rfl rfl ?_
            refine x_iret C T dX12_heights_105 ?_
            refine PI_i (by omega) ?_
            unfold rM_heights nM_heights
            first
              | (exfalso; omega)
              | (rw [if_neg (by omega), if_neg (by omega)]; exact ⟨rfl, rfl⟩)
              | (rw [if_pos (by omega), if_pos (by omega), if_neg (by omega)]; exact ⟨rfl, rfl⟩)
              | (rw [if_pos (by omega), if_neg (by omega), if_pos (by omega), if_neg (by omega)]; exact ⟨rfl, rfl⟩)
              | (have hkk : kH f (σ 77 s.toNat) n = k := by unfold kH; (try rw [e77] at *); split <;> omega
                 rw [if_pos (by omega), if_neg (by omega), if_neg (by omega), if_pos (by omega), if_pos (by omega), hkk]; exact ⟨rfl, hs1⟩)
              | (have hkk : kH f (σ 77 s.toNat) n = k := by unfold kH; split <;> omega
                 rw [if_pos (by omega), if_neg (by omega), if_neg (by omega), if_neg (by omega), if_pos (by omega), hkk, show n.toNat = k by omega]; exact ⟨hz1, hs1⟩)
          refine x_iload_n 87 C dX12_heights_86 rfl rfl rfl ?_
          refine x_aload_n 88 C dX12_heights_87 rfl rfl rfl ?_
          refine x_getr (j := 54) 91 C rfl (lt79 (by decide)) rfl rfl (by decide) inT12 tb_4_188 rfl dX12_heights_88 rfl ?_
          refine x_iload_n 92 C dX12_heights_91 rfl rfl rfl ?_
          refine x_iald 93 C rfl (lt79 (by decide)) dX12_heights_92 rfl (by omega) (by omega) (fun r92 => ?_)
          refine x_iconst 94 C dX12_heights_93 rfl ?_
          refine x_iload 96 C dX12_heights_94 rfl rfl ?_
          refine x_imul 97 C dX12_heights_96 rfl ?_
          refine x_isub 98 C dX12_heights_97 rfl ?_
          refine x_iconst 99 C dX12_heights_98 rfl ?_
          refine x_isub 100 C dX12_heights_99 rfl ?_
          refine x_icmp_le 106 103 C dX12_heights_100 rfl rfl (by rw [e77] at *; omega) (by rw [e77] at *; omega) (fun h100 => ?_) (fun h100 => ?_)
          rotate_left
          · try rw [e77] at *
            refine x_bipush 105 C dX12_heights_103 rfl rfl ?_
            refine x_iret C T dX12_heights_105 ?_
            refine PI_i (by omega) ?_
            unfold rM_heights nM_heights
            first
              | (exfalso; omega)
              | (rw [if_neg (by omega), if_neg (by omega)]; exact ⟨rfl, rfl⟩)
              | (rw [if_pos (by omega), if_pos (by omega), if_neg (by omega)]; exact ⟨rfl, rfl⟩)
              | (rw [if_pos (by omega), if_neg (by omega), if_pos (by omega), if_neg (by omega)]; exact ⟨rfl, rfl⟩)
              | (have hkk : kH f (σ 77 s.toNat) n = k := by unfold kH; (try rw [e77] at *); split <;> omega
                 rw [if_pos (by omega), if_neg (by omega), if_neg (by omega), if_pos (by omega), if_pos (by omega), hkk]; exact ⟨rfl, hs1⟩)
              | (have hkk : kH f (σ 77 s.toNat) n = k := by unfold kH; split <;> omega
                 rw [if_pos (by omega), if_neg (by omega), if_neg (by omega), if_neg (by omega), if_pos (by omega), hkk, show n.toNat = k by omega]; exact ⟨hz1, hs1⟩)
          have hix : (40 * s + f + 2 * (k : Int)).toNat = 40 * s.toNat + (f.toNat + 2 * k) := by rw [e77] at *; omega
          have hix2 : (40 * s + f + 2 * (k : Int) + 1).toNat = 40 * s.toNat + (f.toNat + 2 * k + 1) := by rw [e77] at *; omega
          refine x_bipush 108 C dX12_heights_106 rfl rfl ?_
          refine x_iload_n 109 C dX12_heights_108 rfl rfl rfl ?_
          refine x_imul 110 C dX12_heights_109 rfl ?_
          refine x_iload_n 111 C dX12_heights_110 rfl rfl rfl ?_
          refine x_iadd 112 C dX12_heights_111 rfl ?_
          refine x_iconst 113 C dX12_heights_112 rfl ?_
          refine x_iload 115 C dX12_heights_113 rfl rfl ?_
          refine x_imul 116 C dX12_heights_115 rfl ?_
          refine x_iadd 117 C dX12_heights_116 rfl ?_
          refine x_istore_7 119 C dX12_heights_117 rfl rfl ?_
          refine x_iload 121 C dX12_heights_119 rfl rfl ?_
          refine x_aload_n 122 C dX12_heights_121 rfl rfl rfl ?_
          refine x_iconst 123 C dX12_heights_122 rfl ?_
          refine x_aload_n 124 C dX12_heights_123 rfl rfl rfl ?_
          refine x_getr (j := 55) 127 C rfl (lt79 (by decide)) rfl rfl (by decide) inT12 tb_4_189 rfl dX12_heights_124 rfl ?_
          refine x_iload 129 C dX12_heights_127 rfl rfl ?_
          refine x_iald 130 C rfl (lt79 (by decide)) dX12_heights_129 rfl (by rw [e77] at *; omega) (by omega) (fun r129 => ?_)
          rw [hix, e78]; rw [hix, e78] at r129
          refine x_aload_n 131 C dX12_heights_130 rfl rfl rfl ?_
          refine x_getr (j := 55) 134 C rfl (lt79 (by decide)) rfl rfl (by decide) inT12 tb_4_189 rfl dX12_heights_131 rfl ?_
          refine x_iload 136 C dX12_heights_134 rfl rfl ?_
          refine x_iconst 137 C dX12_heights_136 rfl ?_
          refine x_iadd 138 C dX12_heights_137 rfl ?_
          refine x_iald 139 C rfl (lt79 (by decide)) dX12_heights_138 rfl (by rw [e77] at *; omega) (by omega) (fun r138 => ?_)
          rw [hix2, e78]; rw [hix2, e78] at r138
          refine x_callVi 142 C dX12_heights_139 rfl (c_X12_town (by omega) (by omega) (by omega)) rfl (lt79 (by decide)) rfl tb_6_119 tb_5_66 tb_5_67 tb_1_20 tb_5_68 (na := 3) (by decide +kernel) rfl ⟨by decide, by decide⟩ rfl (Nat.le_of_ble_eq_true rfl) rfl (fun z139 s139 hz139 hq139 hR139 => ?_)
          obtain ⟨hz139, hs139⟩ := hq139
          have hit : σ 78 (40 * s.toNat + (f.toNat + 2 * k)) = itM σ s.toNat (f.toNat + 2 * k) := rfl
          have hit2 : σ 78 (40 * s.toNat + (f.toNat + 2 * k + 1)) = itM σ s.toNat (f.toNat + 2 * k + 1) := rfl
          rw [hit, hit2] at hz139 hs139
          have hres : (z139 < 0 ↔ ¬ (0 ≤ itM σ s.toNat (f.toNat + 2 * k) ∧ itM σ s.toNat (f.toNat + 2 * k) < 36 ∧ 0 ≤ itM σ s.toNat (f.toNat + 2 * k + 1) ∧ itM σ s.toNat (f.toNat + 2 * k + 1) ≤ 9)) := by
            rw [hz139]
            unfold rM_town
            by_cases hcc : 0 ≤ itM σ s.toNat (f.toNat + 2 * k) ∧ itM σ s.toNat (f.toNat + 2 * k) < 36 ∧ 0 ≤ itM σ s.toNat (f.toNat + 2 * k + 1) ∧ itM σ s.toNat (f.toNat + 2 * k + 1) ≤ 9
            · rw [if_pos ⟨rfl, hcc⟩, e55]
              have := hH (itM σ s.toNat (f.toNat + 2 * k)).toNat
              omega
            · rw [if_neg (fun h => hcc h.2), if_neg (by omega)]
              omega
          have hs2 : s139 = rowS σ 55 (hgtR (σ 55) (itM σ s.toNat) f.toNat (k + 1)) := by
            rw [hs139]
            unfold nM_town
            by_cases hcc : 0 ≤ itM σ s.toNat (f.toNat + 2 * k) ∧ itM σ s.toNat (f.toNat + 2 * k) < 36 ∧ 0 ≤ itM σ s.toNat (f.toNat + 2 * k + 1) ∧ itM σ s.toNat (f.toNat + 2 * k + 1) ≤ 9
            · rw [if_pos ⟨rfl, hcc⟩, hs1]
              funext a b
              simp only [up, rowS, hgtR]
              by_cases ha : a = 55
              · subst ha
                rw [if_pos rfl, if_pos rfl, if_pos rfl]
                by_cases hb : b = (itM σ s.toNat (f.toNat + 2 * k)).toNat
                · rw [if_pos hb, if_pos ⟨hcc, hb⟩]
                · rw [if_neg hb, if_neg (fun h => hb h.2)]
              · rw [if_neg ha, if_neg ha, if_neg ha]
            · rw [if_neg (fun h => hcc h.2), if_neg (by omega), hs1]
              funext a b
              simp only [rowS, hgtR]
              by_cases ha : a = 55
              · subst ha
                rw [if_pos rfl, if_pos rfl, if_neg (fun h => hcc h.1)]
              · rw [if_neg ha, if_neg ha]
          have J150 : ∀ (w : Int), (z + w = hgtC (itM σ s.toNat) f.toNat (k + 1) ∧ 0 ≤ w ∧ w ≤ 1) → Ex K G (NN tc) ρ (shp tc cl) 150 [some (.ref (ρ 51)), some (.int (iZ s)), some (.int (iZ q)), some (.int (iZ f)), some (.int (iZ n)), some (.int (iZ z)), some (.int (iZ (k : Int))), some (.int (iZ (40 * s + f + 2 * (k : Int))))] [.int (iZ w), .int (iZ z)] s139 := by
            intro w hinv
            obtain ⟨hz2, hw01⟩ := hinv
            refine x_iadd 151 C dX12_heights_150 rfl ?_
            refine x_istore_5 153 C dX12_heights_151 rfl rfl ?_
            refine x_iinc_6 156 C dX12_heights_153 rfl rfl ?_
            refine x_goto 75 C dX12_heights_156 rfl ?_
            refine x_drop_7 ?_
            exact ih _ (by omega) (k + 1) _ _ _ rfl ⟨by omega, by omega, hz2, hs2, Or.inr ⟨by rw [e77] at *; omega, by rw [e77] at *; omega⟩⟩
          refine x_if_lt 149 145 C dX12_heights_142 rfl rfl (by omega) (fun h142 => ?_) (fun h142 => ?_)
          · refine x_iconst 150 C dX12_heights_149 rfl ?_
            refine J150 _ ⟨?_, by omega⟩
            first | (exfalso; omega) | (rw [hgtC, ← hz1]; first | rw [if_pos (by omega)] | rw [if_neg (by omega)])
          refine x_iconst 146 C dX12_heights_145 rfl ?_
          refine x_goto 150 C dX12_heights_146 rfl ?_
          refine J150 _ ⟨?_, by omega⟩
          first | (exfalso; omega) | (rw [hgtC, ← hz1]; first | rw [if_pos (by omega)] | rw [if_neg (by omega)])
      exact L75 _ 0 _ _ _ rfl ⟨by omega, rfl, rfl, by rw [hgtR, rowS_self], Or.inl rfl⟩
    refine x_bipush 68 C dX12_heights_66 rfl rfl ?_
    refine x_iret C T dX12_heights_68 ?_
    refine PI_i (by omega) ?_
    unfold rM_heights nM_heights
    first
      | (exfalso; omega)
      | (rw [if_neg (by omega), if_neg (by omega)]; exact ⟨rfl, rfl⟩)
      | (rw [if_pos (by omega), if_pos (by omega), if_neg (by omega)]; exact ⟨rfl, rfl⟩)
      | (rw [if_pos (by omega), if_neg (by omega), if_pos (by omega), if_neg (by omega)]; exact ⟨rfl, rfl⟩)
      | (have hkk : kH f (σ 77 s.toNat) n = k := by unfold kH; (try rw [e77] at *); split <;> omega
         rw [if_pos (by omega), if_neg (by omega), if_neg (by omega), if_pos (by omega), if_pos (by omega), hkk]; exact ⟨rfl, hs1⟩)
      | (have hkk : kH f (σ 77 s.toNat) n = k := by unfold kH; split <;> omega
         rw [if_pos (by omega), if_neg (by omega), if_neg (by omega), if_neg (by omega), if_pos (by omega), hkk, show n.toNat = k by omega]; exact ⟨hz1, hs1⟩)
  refine x_aload_n 45 C dX12_heights_44 rfl rfl rfl ?_
  refine x_getr (j := 53) 48 C rfl (lt79 (by decide)) rfl rfl (by decide) inT12 tb_4_187 rfl dX12_heights_45 rfl ?_
  refine x_iload_n 49 C dX12_heights_48 rfl rfl rfl ?_
  refine x_iald 50 C rfl (lt79 (by decide)) dX12_heights_49 rfl (by omega) (by omega) (fun r49 => ?_)
  refine x_iload_n 51 C dX12_heights_50 rfl rfl rfl ?_
  refine x_icmp_eq 57 54 C dX12_heights_51 rfl rfl (by omega) (by omega) (fun h51 => ?_) (fun h51 => ?_)
  rotate_left
  · refine x_bipush 56 C dX12_heights_54 rfl rfl ?_
    refine x_iret C T dX12_heights_56 ?_
    refine PI_i (by omega) ?_
    unfold rM_heights nM_heights
    first
      | (exfalso; omega)
      | (rw [if_neg (by omega), if_neg (by omega)]; exact ⟨rfl, rfl⟩)
      | (rw [if_pos (by omega), if_pos (by omega), if_neg (by omega)]; exact ⟨rfl, rfl⟩)
      | (rw [if_pos (by omega), if_neg (by omega), if_pos (by omega), if_neg (by omega)]; exact ⟨rfl, rfl⟩)
      | (have hkk : kH f (σ 77 s.toNat) n = k := by unfold kH; (try rw [e77] at *); split <;> omega
         rw [if_pos (by omega), if_neg (by omega), if_neg (by omega), if_pos (by omega), if_pos (by omega), hkk]; exact ⟨rfl, hs1⟩)
      | (have hkk : kH f (σ 77 s.toNat) n = k := by unfold kH; split <;> omega
         rw [if_pos (by omega), if_neg (by omega), if_neg (by omega), if_neg (by omega), if_pos (by omega), hkk, show n.toNat = k by omega]; exact ⟨hz1, hs1⟩)
  refine x_aload_n 58 C dX12_heights_57 rfl rfl rfl ?_
  refine x_getr (j := 52) 61 C rfl (lt79 (by decide)) rfl rfl (by decide) inT12 tb_4_186 rfl dX12_heights_58 rfl ?_
  refine x_iload_n 62 C dX12_heights_61 rfl rfl rfl ?_
  refine x_zald 63 C rfl (lt79 (by decide)) dX12_heights_62 rfl (by omega) (by omega) (fun r62 => ?_)
  refine x_if_ne 69 66 C dX12_heights_63 rfl rfl (by omega) (fun h63 => ?_) (fun h63 => ?_)
  · refine x_iconst 70 C dX12_heights_69 rfl ?_
    refine x_istore_5 72 C dX12_heights_70 rfl rfl ?_
    refine x_iconst 73 C dX12_heights_72 rfl ?_
    refine x_istore_6 75 C dX12_heights_73 rfl rfl ?_
    have L75 : ∀ (m : Nat) (k : Nat) (y z : Int) (s1 : Sig), m = n.toNat - k → ((k : Int) ≤ n ∧ y = k ∧ z = hgtC (itM σ s.toNat) f.toNat k ∧ s1 = rowS σ 55 (hgtR (σ 55) (itM σ s.toNat) f.toNat k) ∧ (k = 0 ∨ (0 ≤ f ∧ f + 2 * k ≤ σ 77 s.toNat))) → Ex K G (NN tc) ρ (shp tc cl) 75 [some (.ref (ρ 51)), some (.int (iZ s)), some (.int (iZ q)), some (.int (iZ f)), some (.int (iZ n)), some (.int (iZ z)), some (.int (iZ y)), none] [] s1 := by
      intro m
      induction m using Nat.strongRecOn with
      | ind m ih =>
        intro k y z s1 hm hinv
        obtain ⟨hk, rfl, hz1, hs1, hk2⟩ := hinv
        have hc := hgtC_in (itM σ s.toNat) f.toNat k
        have e77 : s1 77 s.toNat = σ 77 s.toNat := by rw [hs1]; exact congrFun (rowS_ne (by omega)) _
        have e78 : s1 78 = σ 78 := by rw [hs1]; exact rowS_ne (by omega)
        have e55 : s1 55 = hgtR (σ 55) (itM σ s.toNat) f.toNat k := by rw [hs1]; exact rowS_eq
        have hH := hgtR_in (H := σ 55) (it := itM σ s.toNat) (p := f.toNat) (fun b => (hT.2.2.2.2 b).1) k
        refine x_iload 77 C dX12_heights_75 rfl rfl ?_
        refine x_iload 79 C dX12_heights_77 rfl rfl ?_
        refine x_icmp_ge 159 82 C dX12_heights_79 rfl rfl (by omega) (by omega) (fun h79 => ?_) (fun h79 => ?_)
        · refine x_iload 161 C dX12_heights_159 rfl rfl ?_
          refine x_iret C T dX12_heights_161 ?_
          refine PI_i (by omega) ?_
          unfold rM_heights nM_heights
          first
            | (exfalso; omega)
            | (rw [if_neg (by omega), if_neg (by omega)]; exact ⟨rfl, rfl⟩)
            | (rw [if_pos (by omega), if_pos (by omega), if_neg (by omega)]; exact ⟨rfl, rfl⟩)
            | (rw [if_pos (by omega), if_neg (by omega), if_pos (by omega), if_neg (by omega)]; exact ⟨rfl, rfl⟩)
            | (have hkk : kH f (σ 77 s.toNat) n = k := by unfold kH; (try rw [e77] at *); split <;> omega
               rw [if_pos (by omega), if_neg (by omega), if_neg (by omega), if_pos (by omega), if_pos (by omega), hkk]; exact ⟨rfl, hs1⟩)
            | (have hkk : kH f (σ 77 s.toNat) n = k := by unfold kH; split <;> omega
               rw [if_pos (by omega), if_neg (by omega), if_neg (by omega), if_neg (by omega), if_pos (by omega), hkk, show n.toNat = k by omega]; exact ⟨hz1, hs1⟩)
        
        refine x_iload_n 83 C dX12_heights_82 rfl rfl rfl ?_
        refine x_if_lt 103 86 C dX12_heights_83 rfl rfl (by omega) (fun h83 => ?_) (fun h83 => ?_)
        · try rw [e77] at *
          refine x_bipush 105 C dX12_heights_103 rfl rfl ?_
          refine x_iret C T dX12_heights_105 ?_
          refine PI_i (by omega) ?_
          unfold rM_heights nM_heights
          first
            | (exfalso; omega)
            | (rw [if_neg (by omega), if_neg (by omega)]; exact ⟨rfl, rfl⟩)
            | (rw [if_pos (by omega), if_pos (by omega), if_neg (by omega)]; exact ⟨rfl, rfl⟩)
            | (rw [if_pos (by omega), if_neg (by omega), if_pos (by omega), if_neg (by omega)]; exact ⟨rfl, rfl⟩)
            | (have hkk : kH f (σ 77 s.toNat) n = k := by unfold kH; (try rw [e77] at *); split <;> omega
               rw [if_pos (by omega), if_neg (by omega), if_neg (by omega), if_pos (by omega), if_pos (by omega), hkk]; exact ⟨rfl, hs1⟩)
            | (have hkk : kH f (σ 77 s.toNat) n = k := by unfold kH; split <;> omega
               rw [if_pos (by omega), if_neg (by omega), if_neg (by omega), if_neg (by omega), if_pos (by omega), hkk, show n.toNat = k by omega]; exact ⟨hz1, hs1⟩)
        refine x_iload_n 87 C dX12_heights_86 rfl rfl rfl ?_
        refine x_aload_n 88 C dX12_heights_87 rfl rfl rfl ?_
        refine x_getr (j := 54) 91 C rfl (lt79 (by decide)) rfl rfl (by decide) inT12 tb_4_188 rfl dX12_heights_88 rfl ?_
        refine x_iload_n 92 C dX12_heights_91 rfl rfl rfl ?_
        refine x_iald 93 C rfl (lt79 (by decide)) dX12_heights_92 rfl (by omega) (by omega) (fun r92 => ?_)
        refine x_iconst 94 C dX12_heights_93 rfl ?_
        refine x_iload 96 C dX12_heights_94 rfl rfl ?_
        refine x_imul 97 C dX12_heights_96 rfl ?_
        refine x_isub 98 C dX12_heights_97 rfl ?_
        refine x_iconst 99 C dX12_heights_98 rfl ?_
        refine x_isub 100 C dX12_heights_99 rfl ?_
        refine x_icmp_le 106 103 C dX12_heights_100 rfl rfl (by rw [e77] at *; omega) (by rw [e77] at *; omega) (fun h100 => ?_) (fun h100 => ?_)
        rotate_left
        · try rw [e77] at *
          refine x_bipush 105 C dX12_heights_103 rfl rfl ?_
          refine x_iret C T dX12_heights_105 ?_
          refine PI_i (by omega) ?_
          unfold rM_heights nM_heights
          first
            | (exfalso; omega)
            | (rw [if_neg (by omega), if_neg (by omega)]; exact ⟨rfl, rfl⟩)
            | (rw [if_pos (by omega), if_pos (by omega), if_neg (by omega)]; exact ⟨rfl, rfl⟩)
            | (rw [if_pos (by omega), if_neg (by omega), if_pos (by omega), if_neg (by omega)]; exact ⟨rfl, rfl⟩)
            | (have hkk : kH f (σ 77 s.toNat) n = k := by unfold kH; (try rw [e77] at *); split <;> omega
               rw [if_pos (by omega), if_neg (by omega), if_neg (by omega), if_pos (by omega), if_pos (by omega), hkk]; exact ⟨rfl, hs1⟩)
            | (have hkk : kH f (σ 77 s.toNat) n = k := by unfold kH; split <;> omega
               rw [if_pos (by omega), if_neg (by omega), if_neg (by omega), if_neg (by omega), if_pos (by omega), hkk, show n.toNat = k by omega]; exact ⟨hz1, hs1⟩)
        have hix : (40 * s + f + 2 * (k : Int)).toNat = 40 * s.toNat + (f.toNat + 2 * k) := by rw [e77] at *; omega
        have hix2 : (40 * s + f + 2 * (k : Int) + 1).toNat = 40 * s.toNat + (f.toNat + 2 * k + 1) := by rw [e77] at *; omega
        refine x_bipush 108 C dX12_heights_106 rfl rfl ?_
        refine x_iload_n 109 C dX12_heights_108 rfl rfl rfl ?_
        refine x_imul 110 C dX12_heights_109 rfl ?_
        refine x_iload_n 111 C dX12_heights_110 rfl rfl rfl ?_
        refine x_iadd 112 C dX12_heights_111 rfl ?_
        refine x_iconst 113 C dX12_heights_112 rfl ?_
        refine x_iload 115 C dX12_heights_113 rfl rfl ?_
        refine x_imul 116 C dX12_heights_115 rfl ?_
        refine x_iadd 117 C dX12_heights_116 rfl ?_
        refine x_istore_7 119 C dX12_heights_117 rfl rfl ?_
        refine x_iload 121 C dX12_heights_119 rfl rfl ?_
        refine x_aload_n 122 C dX12_heights_121 rfl rfl rfl ?_
        refine x_iconst 123 C dX12_heights_122 rfl ?_
        refine x_aload_n 124 C dX12_heights_123 rfl rfl rfl ?_
        refine x_getr (j := 55) 127 C rfl (lt79 (by decide)) rfl rfl (by decide) inT12 tb_4_189 rfl dX12_heights_124 rfl ?_
        refine x_iload 129 C dX12_heights_127 rfl rfl ?_
        refine x_iald 130 C rfl (lt79 (by decide)) dX12_heights_129 rfl (by rw [e77] at *; omega) (by omega) (fun r129 => ?_)
        rw [hix, e78]; rw [hix, e78] at r129
        refine x_aload_n 131 C dX12_heights_130 rfl rfl rfl ?_
        refine x_getr (j := 55) 134 C rfl (lt79 (by decide)) rfl rfl (by decide) inT12 tb_4_189 rfl dX12_heights_131 rfl ?_
        refine x_iload 136 C dX12_heights_134 rfl rfl ?_
        refine x_iconst 137 C dX12_heights_136 rfl ?_
        refine x_iadd 138 C dX12_heights_137 rfl ?_
        refine x_iald 139 C rfl (lt79 (by decide)) dX12_heights_138 rfl (by rw [e77] at *; omega) (by omega) (fun r138 => ?_)
        rw [hix2, e78]; rw [hix2, e78] at r138
        refine x_callVi 142 C dX12_heights_139 rfl (c_X12_town (by omega) (by omega) (by omega)) rfl (lt79 (by decide)) rfl tb_6_119 tb_5_66 tb_5_67 tb_1_20 tb_5_68 (na := 3) (by decide +kernel) rfl ⟨by decide, by decide⟩ rfl (Nat.le_of_ble_eq_true rfl) rfl (fun z139 s139 hz139 hq139 hR139 => ?_)
        obtain ⟨hz139, hs139⟩ := hq139
        have hit : σ 78 (40 * s.toNat + (f.toNat + 2 * k)) = itM σ s.toNat (f.toNat + 2 * k) := rfl
        have hit2 : σ 78 (40 * s.toNat + (f.toNat + 2 * k + 1)) = itM σ s.toNat (f.toNat + 2 * k + 1) := rfl
        rw [hit, hit2] at hz139 hs139
        have hres : (z139 < 0 ↔ ¬ (0 ≤ itM σ s.toNat (f.toNat + 2 * k) ∧ itM σ s.toNat (f.toNat + 2 * k) < 36 ∧ 0 ≤ itM σ s.toNat (f.toNat + 2 * k + 1) ∧ itM σ s.toNat (f.toNat + 2 * k + 1) ≤ 9)) := by
          rw [hz139]
          unfold rM_town
          by_cases hcc : 0 ≤ itM σ s.toNat (f.toNat + 2 * k) ∧ itM σ s.toNat (f.toNat + 2 * k) < 36 ∧ 0 ≤ itM σ s.toNat (f.toNat + 2 * k + 1) ∧ itM σ s.toNat (f.toNat + 2 * k + 1) ≤ 9
          · rw [if_pos ⟨rfl, hcc⟩, e55]
            have := hH (itM σ s.toNat (f.toNat + 2 * k)).toNat
            omega
          · rw [if_neg (fun h => hcc h.2), if_neg (by omega)]
            omega
        have hs2 : s139 = rowS σ 55 (hgtR (σ 55) (itM σ s.toNat) f.toNat (k + 1)) := by
          rw [hs139]
          unfold nM_town
          by_cases hcc : 0 ≤ itM σ s.toNat (f.toNat + 2 * k) ∧ itM σ s.toNat (f.toNat + 2 * k) < 36 ∧ 0 ≤ itM σ s.toNat (f.toNat + 2 * k + 1) ∧ itM σ s.toNat (f.toNat + 2 * k + 1) ≤ 9
          · rw [if_pos ⟨rfl, hcc⟩, hs1]
            funext a b
            simp only [up, rowS, hgtR]
            by_cases ha : a = 55
            · subst ha
              rw [if_pos rfl, if_pos rfl, if_pos rfl]
              by_cases hb : b = (itM σ s.toNat (f.toNat + 2 * k)).toNat
              · rw [if_pos hb, if_pos ⟨hcc, hb⟩]
              · rw [if_neg hb, if_neg (fun h => hb h.2)]
            · rw [if_neg ha, if_neg ha, if_neg ha]
          · rw [if_neg (fun h => hcc h.2), if_neg (by omega), hs1]
            funext a b
            simp only [rowS, hgtR]
            by_cases ha : a = 55
            · subst ha
              rw [if_pos rfl, if_pos rfl, if_neg (fun h => hcc h.1)]
            · rw [if_neg ha, if_neg ha]
        have J150 : ∀ (w : Int), (z + w = hgtC (itM σ s.toNat) f.toNat (k + 1) ∧ 0 ≤ w ∧ w ≤ 1) → Ex K G (NN tc) ρ (shp tc cl) 150 [some (.ref (ρ 51)), some (.int (iZ s)), some (.int (iZ q)), some (.int (iZ f)), some (.int (iZ n)), some (.int (iZ z)), some (.int (iZ (k : Int))), some (.int (iZ (40 * s + f + 2 * (k : Int))))] [.int (iZ w), .int (iZ z)] s139 := by
          intro w hinv
          obtain ⟨hz2, hw01⟩ := hinv
          refine x_iadd 151 C dX12_heights_150 rfl ?_
          refine x_istore_5 153 C dX12_heights_151 rfl rfl ?_
          refine x_iinc_6 156 C dX12_heights_153 rfl rfl ?_
          refine x_goto 75 C dX12_heights_156 rfl ?_
          refine x_drop_7 ?_
          exact ih _ (by omega) (k + 1) _ _ _ rfl ⟨by omega, by omega, hz2, hs2, Or.inr ⟨by rw [e77] at *; omega, by rw [e77] at *; omega⟩⟩
        refine x_if_lt 149 145 C dX12_heights_142 rfl rfl (by omega) (fun h142 => ?_) (fun h142 => ?_)
        · refine x_iconst 150 C dX12_heights_149 rfl ?_
          refine J150 _ ⟨?_, by omega⟩
          first | (exfalso; omega) | (rw [hgtC, ← hz1]; first | rw [if_pos (by omega)] | rw [if_neg (by omega)])
        refine x_iconst 146 C dX12_heights_145 rfl ?_
        refine x_goto 150 C dX12_heights_146 rfl ?_
        refine J150 _ ⟨?_, by omega⟩
        first | (exfalso; omega) | (rw [hgtC, ← hz1]; first | rw [if_pos (by omega)] | rw [if_neg (by omega)])
    exact L75 _ 0 _ _ _ rfl ⟨by omega, rfl, rfl, by rw [hgtR, rowS_self], Or.inl rfl⟩
  refine x_bipush 68 C dX12_heights_66 rfl rfl ?_
  refine x_iret C T dX12_heights_68 ?_
  refine PI_i (by omega) ?_
  unfold rM_heights nM_heights
  first
    | (exfalso; omega)
    | (rw [if_neg (by omega), if_neg (by omega)]; exact ⟨rfl, rfl⟩)
    | (rw [if_pos (by omega), if_pos (by omega), if_neg (by omega)]; exact ⟨rfl, rfl⟩)
    | (rw [if_pos (by omega), if_neg (by omega), if_pos (by omega), if_neg (by omega)]; exact ⟨rfl, rfl⟩)
    | (have hkk : kH f (σ 77 s.toNat) n = k := by unfold kH; (try rw [e77] at *); split <;> omega
       rw [if_pos (by omega), if_neg (by omega), if_neg (by omega), if_pos (by omega), if_pos (by omega), hkk]; exact ⟨rfl, hs1⟩)
    | (have hkk : kH f (σ 77 s.toNat) n = k := by unfold kH; split <;> omega
       rw [if_pos (by omega), if_neg (by omega), if_neg (by omega), if_neg (by omega), if_pos (by omega), hkk, show n.toNat = k by omega]; exact ⟨hz1, hs1⟩)

/-- the model's image of what stands now -/
def IMG (σ σ' : Sig) : Prop := (∀ a b, a ≠ 72 → a ≠ 73 → a ≠ 74 → (a ≠ 51 ∨ b < 48) → σ' a b = σ a b) ∧ (∀ b, b < 36 → σ' 72 b = σ 55 b) ∧ (∀ b, b < 6 → σ' 73 b = σ 57 b ∧ σ' 73 (6 + b) = σ 58 b ∧ σ' 73 (12 + b) = σ 59 b) ∧ (∀ b, b < 5 → σ' 74 b = σ 60 b ∧ σ' 74 (5 + b) = σ 61 b ∧ σ' 74 (10 + b) = σ 62 b) ∧ σ' 51 48 = σ 51 18 ∧ σ' 51 49 = σ 51 13 ∧ σ' 51 50 = σ 51 8 ∧ σ' 51 51 = σ 51 4
set_option maxHeartbeats 4000000 in
set_option maxRecDepth 100000 in
theorem c_X12_image {l : Launch} {G : Gt} {ρ : Nat → Nat} {tc : Nat} {cl : Nat → Nat} {σ : Sig} (hT : MI σ) : MX l yX12_image cX12_image 2 (some .int) 0 0 G (NN tc) ρ (shp tc cl) [.ref (ρ 51)] σ (PI (fun z σ' => z = σ 51 18 ∧ IMG σ σ')) := by
  refine MX_of [some (.ref (ρ 51)), none] (by decide +kernel) rfl rfl (Nat.le_of_ble_eq_true rfl) ?_
  intro K hKl C T hRng
  subst hKl
  have h3 := hT.2.2.1
  have h8 := hT.2.2.2.1
  refine x_iconst 1 C dX12_image_0 rfl ?_
  refine x_istore_n1 2 C dX12_image_1 rfl rfl ?_
  have L2 : ∀ (m : Nat) (i : Nat) (y : Int) (s1 : Sig), m = 36 - i → (i ≤ 36 ∧ y = i ∧ (∀ a b, a ≠ 72 → s1 a b = σ a b) ∧ (∀ b, b < i → s1 72 b = σ 55 b)) → Ex K G (NN tc) ρ (shp tc cl) 2 [some (.ref (ρ 51)), some (.int (iZ y))] [] s1 := by
    intro m
    induction m using Nat.strongRecOn with
    | ind m ih =>
      intro i y s1 hm hinv
      obtain ⟨hi, rfl, hf, hd⟩ := hinv
      refine x_iload_n 3 C dX12_image_2 rfl rfl rfl ?_
      refine x_bipush 5 C dX12_image_3 rfl rfl ?_
      refine x_icmp_ge 26 8 C dX12_image_5 rfl rfl (by omega) (by omega) (fun h5 => ?_) (fun h5 => ?_)
      · refine x_iconst 27 C dX12_image_26 rfl ?_
        refine x_istore_n1 28 C dX12_image_27 rfl rfl ?_
        have L28 : ∀ (m : Nat) (j : Nat) (y : Int) (s2 : Sig), m = 6 - j → (j ≤ 6 ∧ y = j ∧ (∀ a b, a ≠ 72 → a ≠ 73 → s2 a b = σ a b) ∧ (∀ b, b < 36 → s2 72 b = σ 55 b) ∧ (∀ b, b < j → s2 73 b = σ 57 b ∧ s2 73 (6 + b) = σ 58 b ∧ s2 73 (12 + b) = σ 59 b)) → Ex K G (NN tc) ρ (shp tc cl) 28 [some (.ref (ρ 51)), some (.int (iZ y))] [] s2 := by
          intro m
          induction m using Nat.strongRecOn with
          | ind m ih =>
            intro j y s2 hm hinv
            obtain ⟨hj, rfl, hf2, hh2, hd2⟩ := hinv
            refine x_iload_n 29 C dX12_image_28 rfl rfl rfl ?_
            refine x_bipush 31 C dX12_image_29 rfl rfl ?_
            refine x_icmp_ge 82 34 C dX12_image_31 rfl rfl (by omega) (by omega) (fun h31 => ?_) (fun h31 => ?_)
            · refine x_iconst 83 C dX12_image_82 rfl ?_
              refine x_istore_n1 84 C dX12_image_83 rfl rfl ?_
              have L84 : ∀ (m : Nat) (k : Nat) (y : Int) (s3 : Sig), m = 5 - k → (k ≤ 5 ∧ y = k ∧ (∀ a b, a ≠ 72 → a ≠ 73 → a ≠ 74 → s3 a b = σ a b) ∧ (∀ b, b < 36 → s3 72 b = σ 55 b) ∧ (∀ b, b < 6 → s3 73 b = σ 57 b ∧ s3 73 (6 + b) = σ 58 b ∧ s3 73 (12 + b) = σ 59 b) ∧ (∀ b, b < k → s3 74 b = σ 60 b ∧ s3 74 (5 + b) = σ 61 b ∧ s3 74 (10 + b) = σ 62 b)) → Ex K G (NN tc) ρ (shp tc cl) 84 [some (.ref (ρ 51)), some (.int (iZ y))] [] s3 := by
                intro m
                induction m using Nat.strongRecOn with
                | ind m ih =>
                  intro k y s3 hm hinv
                  obtain ⟨hk, rfl, hf3, hh3, hg3, hd3⟩ := hinv
                  refine x_iload_n 85 C dX12_image_84 rfl rfl rfl ?_
                  refine x_iconst 86 C dX12_image_85 rfl ?_
                  refine x_icmp_ge 136 89 C dX12_image_86 rfl rfl (by omega) (by omega) (fun h86 => ?_) (fun h86 => ?_)
                  · refine x_aload_n 137 C dX12_image_136 rfl rfl rfl ?_
                    refine x_aload_n 138 C dX12_image_137 rfl rfl rfl ?_
                    refine x_geti (j := 18) 141 C rfl (lt79 (by decide)) rfl rfl (by decide) inT12 tb_4_152 rfl dX12_image_138 rfl (fun r138 => ?_)
                    refine x_puti (j := 48) tyX12 144 C rfl (lt79 (by decide)) rfl rfl (by decide) inT12 tyX12_ok nmX12 tb_4_182 rfl rfl rfl dX12_image_141 rfl (by omega) ?_
                    refine x_aload_n 145 C dX12_image_144 rfl rfl rfl ?_
                    refine x_aload_n 146 C dX12_image_145 rfl rfl rfl ?_
                    refine x_geti (j := 13) 149 C rfl (lt79 (by decide)) rfl rfl (by decide) inT12 tb_4_147 rfl dX12_image_146 rfl (fun r146 => ?_)
                    refine x_puti (j := 49) tyX12 152 C rfl (lt79 (by decide)) rfl rfl (by decide) inT12 tyX12_ok nmX12 tb_4_183 rfl rfl rfl dX12_image_149 rfl (by omega) ?_
                    refine x_aload_n 153 C dX12_image_152 rfl rfl rfl ?_
                    refine x_aload_n 154 C dX12_image_153 rfl rfl rfl ?_
                    refine x_geti (j := 8) 157 C rfl (lt79 (by decide)) rfl rfl (by decide) inT12 tb_4_142 rfl dX12_image_154 rfl (fun r154 => ?_)
                    refine x_puti (j := 50) tyX12 160 C rfl (lt79 (by decide)) rfl rfl (by decide) inT12 tyX12_ok nmX12 tb_4_184 rfl rfl rfl dX12_image_157 rfl (by omega) ?_
                    refine x_aload_n 161 C dX12_image_160 rfl rfl rfl ?_
                    refine x_aload_n 162 C dX12_image_161 rfl rfl rfl ?_
                    refine x_geti (j := 4) 165 C rfl (lt79 (by decide)) rfl rfl (by decide) inT12 tb_4_138 rfl dX12_image_162 rfl (fun r162 => ?_)
                    refine x_puti (j := 51) tyX12 168 C rfl (lt79 (by decide)) rfl rfl (by decide) inT12 tyX12_ok nmX12 tb_4_185 rfl rfl rfl dX12_image_165 rfl (by omega) ?_
                    refine x_aload_n 169 C dX12_image_168 rfl rfl rfl ?_
                    refine x_geti (j := 18) 172 C rfl (lt79 (by decide)) rfl rfl (by decide) inT12 tb_4_152 rfl dX12_image_169 rfl (fun r169 => ?_)
                    refine x_iret C T dX12_image_172 ?_
                    have hq : ∀ b, s3 51 b = σ 51 b := fun b => hf3 51 b (by omega) (by omega) (by omega)
                    refine PI_i (by simp only [up]; (repeat' split) <;> omega) ⟨?_, ?_, ?_, ?_, ?_, ?_, ?_, ?_, ?_⟩
                    · simp [up, hq]
                    · intro a b h1 h2 h3 h4
                      by_cases ha : a = 51
                      · subst ha
                        rw [up_i (by omega), up_i (by omega), up_i (by omega), up_i (by omega)]
                        exact hq b
                      · rw [up_r ha, up_r ha, up_r ha, up_r ha]
                        exact hf3 a b h1 h2 h3
                    · intro b hb
                      rw [up_r (by omega), up_r (by omega), up_r (by omega), up_r (by omega)]
                      exact hh3 b hb
                    · intro b hb
                      simp only [up_r (show (73 : Nat) ≠ 51 by decide)]
                      exact hg3 b hb
                    · intro b hb
                      simp only [up_r (show (74 : Nat) ≠ 51 by decide)]
                      exact hd3 b (by omega)
                    · simp [up, hq]
                    · simp [up, hq]
                    · simp [up, hq]
                    · simp [up, hq]
                  refine x_aload_n 90 C dX12_image_89 rfl rfl rfl ?_
                  refine x_getr (j := 47) 93 C rfl (lt79 (by decide)) rfl rfl (by decide) inT12 tb_4_181 rfl dX12_image_90 rfl ?_
                  refine x_iload_n 94 C dX12_image_93 rfl rfl rfl ?_
                  refine x_aload_n 95 C dX12_image_94 rfl rfl rfl ?_
                  refine x_getr (j := 14) 98 C rfl (lt79 (by decide)) rfl rfl (by decide) inT12 tb_4_148 rfl dX12_image_95 rfl ?_
                  refine x_iload_n 99 C dX12_image_98 rfl rfl rfl ?_
                  refine x_iald 100 C rfl (lt79 (by decide)) dX12_image_99 rfl (by omega) (by omega) (fun r99 => ?_)
                  refine x_iast 101 C rfl (lt79 (by decide)) dX12_image_100 rfl (by omega) (by omega) (by omega) ?_
                  refine x_aload_n 102 C dX12_image_101 rfl rfl rfl ?_
                  refine x_getr (j := 47) 105 C rfl (lt79 (by decide)) rfl rfl (by decide) inT12 tb_4_181 rfl dX12_image_102 rfl ?_
                  refine x_iconst 106 C dX12_image_105 rfl ?_
                  refine x_iload_n 107 C dX12_image_106 rfl rfl rfl ?_
                  refine x_iadd 108 C dX12_image_107 rfl ?_
                  refine x_aload_n 109 C dX12_image_108 rfl rfl rfl ?_
                  refine x_getr (j := 15) 112 C rfl (lt79 (by decide)) rfl rfl (by decide) inT12 tb_4_149 rfl dX12_image_109 rfl ?_
                  refine x_iload_n 113 C dX12_image_112 rfl rfl rfl ?_
                  refine x_iald 114 C rfl (lt79 (by decide)) dX12_image_113 rfl (by omega) (by omega) (fun r113 => ?_)
                  refine x_iast 115 C rfl (lt79 (by decide)) dX12_image_114 rfl (by omega) (by omega) (by omega) ?_
                  refine x_aload_n 116 C dX12_image_115 rfl rfl rfl ?_
                  refine x_getr (j := 47) 119 C rfl (lt79 (by decide)) rfl rfl (by decide) inT12 tb_4_181 rfl dX12_image_116 rfl ?_
                  refine x_bipush 121 C dX12_image_119 rfl rfl ?_
                  refine x_iload_n 122 C dX12_image_121 rfl rfl rfl ?_
                  refine x_iadd 123 C dX12_image_122 rfl ?_
                  refine x_aload_n 124 C dX12_image_123 rfl rfl rfl ?_
                  refine x_getr (j := 16) 127 C rfl (lt79 (by decide)) rfl rfl (by decide) inT12 tb_4_150 rfl dX12_image_124 rfl ?_
                  refine x_iload_n 128 C dX12_image_127 rfl rfl rfl ?_
                  refine x_iald 129 C rfl (lt79 (by decide)) dX12_image_128 rfl (by omega) (by omega) (fun r128 => ?_)
                  refine x_iast 130 C rfl (lt79 (by decide)) dX12_image_129 rfl (by omega) (by omega) (by omega) ?_
                  refine x_iinc_1 133 C dX12_image_130 rfl rfl ?_
                  refine x_goto 84 C dX12_image_133 rfl ?_
                  have i1 : (5 + (k : Int)).toNat = 5 + k := by omega
                  have i2 : (10 + (k : Int)).toNat = 10 + k := by omega
                  refine ih _ (by omega) (k + 1) _ _ rfl ⟨by omega, by omega, fun a b h1 h2 h3 => ?_, fun b hb => ?_, fun b hb => ?_, fun b hb => ?_⟩
                  · rw [up_r h3, up_r h3, up_r h3]; exact hf3 a b h1 h2 h3
                  · rw [up_r (by omega), up_r (by omega), up_r (by omega)]; exact hh3 b hb
                  · simp only [up_r (show (73 : Nat) ≠ 74 by decide)]; exact hg3 b hb
                  · rw [i1, i2, Int.toNat_natCast]
                    by_cases hbj : b = k
                    · subst hbj
                      refine ⟨?_, ?_, ?_⟩
                      · rw [up_i (by omega), up_i (by omega), up_s]; exact hf3 60 b (by omega) (by omega) (by omega)
                      · rw [up_i (by omega), up_s, up_r (by omega)]; exact hf3 61 b (by omega) (by omega) (by omega)
                      · rw [up_s, up_r (by omega), up_r (by omega)]; exact hf3 62 b (by omega) (by omega) (by omega)
                    · have := hd3 b (by omega)
                      refine ⟨?_, ?_, ?_⟩ <;> rw [up_i (by omega), up_i (by omega), up_i (by omega)]
                      · exact this.1
                      · exact this.2.1
                      · exact this.2.2
              exact L84 _ 0 _ _ rfl ⟨by omega, rfl, fun a b h1 h2 _ => hf2 a b h1 h2, hh2, fun b hb => hd2 b (by omega), fun b hb => absurd hb (by omega)⟩
            refine x_aload_n 35 C dX12_image_34 rfl rfl rfl ?_
            refine x_getr (j := 46) 38 C rfl (lt79 (by decide)) rfl rfl (by decide) inT12 tb_4_180 rfl dX12_image_35 rfl ?_
            refine x_iload_n 39 C dX12_image_38 rfl rfl rfl ?_
            refine x_aload_n 40 C dX12_image_39 rfl rfl rfl ?_
            refine x_getr (j := 10) 43 C rfl (lt79 (by decide)) rfl rfl (by decide) inT12 tb_4_144 rfl dX12_image_40 rfl ?_
            refine x_iload_n 44 C dX12_image_43 rfl rfl rfl ?_
            refine x_iald 45 C rfl (lt79 (by decide)) dX12_image_44 rfl (by omega) (by omega) (fun r44 => ?_)
            refine x_iast 46 C rfl (lt79 (by decide)) dX12_image_45 rfl (by omega) (by omega) (by omega) ?_
            refine x_aload_n 47 C dX12_image_46 rfl rfl rfl ?_
            refine x_getr (j := 46) 50 C rfl (lt79 (by decide)) rfl rfl (by decide) inT12 tb_4_180 rfl dX12_image_47 rfl ?_
            refine x_bipush 52 C dX12_image_50 rfl rfl ?_
            refine x_iload_n 53 C dX12_image_52 rfl rfl rfl ?_
            refine x_iadd 54 C dX12_image_53 rfl ?_
            refine x_aload_n 55 C dX12_image_54 rfl rfl rfl ?_
            refine x_getr (j := 11) 58 C rfl (lt79 (by decide)) rfl rfl (by decide) inT12 tb_4_145 rfl dX12_image_55 rfl ?_
            refine x_iload_n 59 C dX12_image_58 rfl rfl rfl ?_
            refine x_iald 60 C rfl (lt79 (by decide)) dX12_image_59 rfl (by omega) (by omega) (fun r59 => ?_)
            refine x_iast 61 C rfl (lt79 (by decide)) dX12_image_60 rfl (by omega) (by omega) (by omega) ?_
            refine x_aload_n 62 C dX12_image_61 rfl rfl rfl ?_
            refine x_getr (j := 46) 65 C rfl (lt79 (by decide)) rfl rfl (by decide) inT12 tb_4_180 rfl dX12_image_62 rfl ?_
            refine x_bipush 67 C dX12_image_65 rfl rfl ?_
            refine x_iload_n 68 C dX12_image_67 rfl rfl rfl ?_
            refine x_iadd 69 C dX12_image_68 rfl ?_
            refine x_aload_n 70 C dX12_image_69 rfl rfl rfl ?_
            refine x_getr (j := 12) 73 C rfl (lt79 (by decide)) rfl rfl (by decide) inT12 tb_4_146 rfl dX12_image_70 rfl ?_
            refine x_iload_n 74 C dX12_image_73 rfl rfl rfl ?_
            refine x_iald 75 C rfl (lt79 (by decide)) dX12_image_74 rfl (by omega) (by omega) (fun r74 => ?_)
            refine x_iast 76 C rfl (lt79 (by decide)) dX12_image_75 rfl (by omega) (by omega) (by omega) ?_
            refine x_iinc_1 79 C dX12_image_76 rfl rfl ?_
            refine x_goto 28 C dX12_image_79 rfl ?_
            have i1 : (6 + (j : Int)).toNat = 6 + j := by omega
            have i2 : (12 + (j : Int)).toNat = 12 + j := by omega
            refine ih _ (by omega) (j + 1) _ _ rfl ⟨by omega, by omega, fun a b h1 h2 => ?_, fun b hb => ?_, fun b hb => ?_⟩
            · rw [up_r h2, up_r h2, up_r h2]; exact hf2 a b h1 h2
            · rw [up_r (by omega), up_r (by omega), up_r (by omega)]; exact hh2 b hb
            · rw [i1, i2, Int.toNat_natCast]
              by_cases hbj : b = j
              · subst hbj
                refine ⟨?_, ?_, ?_⟩
                · rw [up_i (by omega), up_i (by omega), up_s]; exact hf2 57 b (by omega) (by omega)
                · rw [up_i (by omega), up_s, up_r (by omega)]; exact hf2 58 b (by omega) (by omega)
                · rw [up_s, up_r (by omega), up_r (by omega)]; exact hf2 59 b (by omega) (by omega)
              · have := hd2 b (by omega)
                refine ⟨?_, ?_, ?_⟩ <;> rw [up_i (by omega), up_i (by omega), up_i (by omega)]
                · exact this.1
                · exact this.2.1
                · exact this.2.2
        exact L28 _ 0 _ _ rfl ⟨by omega, rfl, fun a b h _ => hf a b h, fun b hb => hd b (by omega), fun b hb => absurd hb (by omega)⟩
      refine x_aload_n 9 C dX12_image_8 rfl rfl rfl ?_
      refine x_getr (j := 45) 12 C rfl (lt79 (by decide)) rfl rfl (by decide) inT12 tb_4_179 rfl dX12_image_9 rfl ?_
      refine x_iload_n 13 C dX12_image_12 rfl rfl rfl ?_
      refine x_aload_n 14 C dX12_image_13 rfl rfl rfl ?_
      refine x_getr (j := 7) 17 C rfl (lt79 (by decide)) rfl rfl (by decide) inT12 tb_4_141 rfl dX12_image_14 rfl ?_
      refine x_iload_n 18 C dX12_image_17 rfl rfl rfl ?_
      refine x_iald 19 C rfl (lt79 (by decide)) dX12_image_18 rfl (by omega) (by omega) (fun r18 => ?_)
      refine x_iast 20 C rfl (lt79 (by decide)) dX12_image_19 rfl (by omega) (by omega) (by omega) ?_
      refine x_iinc_1 23 C dX12_image_20 rfl rfl ?_
      refine x_goto 2 C dX12_image_23 rfl ?_
      refine ih _ (by omega) (i + 1) _ _ rfl ⟨by omega, by omega, fun a b ha => by rw [up_r ha]; exact hf a b ha, fun b hb => ?_⟩
      rw [Int.toNat_natCast]
      by_cases hbi : b = i
      · subst hbi; rw [up_s, hf 55 b (by omega)]
      · rw [up_i hbi]; exact hd b (by omega)
  exact L2 _ 0 _ _ rfl ⟨by omega, rfl, fun _ _ _ => rfl, fun b hb => absurd hb (by omega)⟩

/-- the model's town as it was kept -/
def BCK (σ σ' : Sig) : Prop := (∀ a b, a ≠ 55 → a ≠ 57 → a ≠ 58 → a ≠ 59 → a ≠ 60 → a ≠ 61 → a ≠ 62 → (a ≠ 51 ∨ (b ≠ 4 ∧ b ≠ 8 ∧ b ≠ 13 ∧ b ≠ 18)) → σ' a b = σ a b) ∧ (∀ b, σ' 55 b = if b < 36 then σ 72 b else σ 55 b) ∧ (∀ b, σ' 57 b = (if b < 6 then σ 73 b else σ 57 b) ∧ σ' 58 b = (if b < 6 then σ 73 (6 + b) else σ 58 b) ∧ σ' 59 b = (if b < 6 then σ 73 (12 + b) else σ 59 b)) ∧ (∀ b, σ' 60 b = (if b < 5 then σ 74 b else σ 60 b) ∧ σ' 61 b = (if b < 5 then σ 74 (5 + b) else σ 61 b) ∧ σ' 62 b = (if b < 5 then σ 74 (10 + b) else σ 62 b)) ∧ σ' 51 18 = σ 51 48 ∧ σ' 51 13 = σ 51 49 ∧ σ' 51 8 = σ 51 50 ∧ σ' 51 4 = σ 51 51
set_option maxHeartbeats 4000000 in
set_option maxRecDepth 100000 in
theorem c_X12_back {l : Launch} {G : Gt} {ρ : Nat → Nat} {tc : Nat} {cl : Nat → Nat} {σ : Sig} (hT : MI σ) (hk : σ 51 48 = -1 ∨ (0 ≤ σ 51 48 ∧ σ 51 48 ≤ 5)) : MX l yX12_back cX12_back 2 (some .int) 0 0 G (NN tc) ρ (shp tc cl) [.ref (ρ 51)] σ (PI (fun z σ' => (σ 51 48 = -1 → z = -3 ∧ σ' = σ) ∧ (σ 51 48 ≠ -1 → z = σ 51 48 ∧ BCK σ σ'))) := by
  refine MX_of [some (.ref (ρ 51)), none] (by decide +kernel) rfl rfl (Nat.le_of_ble_eq_true rfl) ?_
  intro K hKl C T hRng
  subst hKl
  refine x_aload_n 1 C dX12_back_0 rfl rfl rfl ?_
  refine x_geti (j := 48) 4 C rfl (lt79 (by decide)) rfl rfl (by decide) inT12 tb_4_182 rfl dX12_back_1 rfl (fun r1 => ?_)
  refine x_iconst 5 C dX12_back_4 rfl ?_
  refine x_icmp_ne 11 8 C dX12_back_5 rfl rfl (by omega) (by omega) (fun h5 => ?_) (fun h5 => ?_)
  · refine x_iconst 12 C dX12_back_11 rfl ?_
    refine x_istore_n1 13 C dX12_back_12 rfl rfl ?_
    have L13 : ∀ (m : Nat) (i : Nat) (y : Int) (s1 : Sig), m = 36 - i → (i ≤ 36 ∧ y = i ∧ (∀ a b, a ≠ 55 → s1 a b = σ a b) ∧ (∀ b, b < i → s1 55 b = σ 72 b) ∧ (∀ b, i ≤ b → s1 55 b = σ 55 b)) → Ex K G (NN tc) ρ (shp tc cl) 13 [some (.ref (ρ 51)), some (.int (iZ y))] [] s1 := by
      intro m
      induction m using Nat.strongRecOn with
      | ind m ih =>
        intro i y s1 hm hinv
        obtain ⟨hi, rfl, hf, hd, he⟩ := hinv
        refine x_iload_n 14 C dX12_back_13 rfl rfl rfl ?_
        refine x_bipush 16 C dX12_back_14 rfl rfl ?_
        refine x_icmp_ge 37 19 C dX12_back_16 rfl rfl (by omega) (by omega) (fun h16 => ?_) (fun h16 => ?_)
        · refine x_iconst 38 C dX12_back_37 rfl ?_
          refine x_istore_n1 39 C dX12_back_38 rfl rfl ?_
          have L39 : ∀ (m : Nat) (j : Nat) (y : Int) (s2 : Sig), m = 6 - j → (j ≤ 6 ∧ y = j ∧ (∀ a b, a ≠ 55 → a ≠ 57 → a ≠ 58 → a ≠ 59 → s2 a b = σ a b) ∧ ((∀ b, b < 36 → s2 55 b = σ 72 b) ∧ (∀ b, 36 ≤ b → s2 55 b = σ 55 b)) ∧ (∀ b, b < j → s2 57 b = σ 73 b ∧ s2 58 b = σ 73 (6 + b) ∧ s2 59 b = σ 73 (12 + b)) ∧ (∀ b, j ≤ b → s2 57 b = σ 57 b ∧ s2 58 b = σ 58 b ∧ s2 59 b = σ 59 b)) → Ex K G (NN tc) ρ (shp tc cl) 39 [some (.ref (ρ 51)), some (.int (iZ y))] [] s2 := by
            intro m
            induction m using Nat.strongRecOn with
            | ind m ih =>
              intro j y s2 hm hinv
              obtain ⟨hj, rfl, hf2, hh2, hd2, he2⟩ := hinv
              refine x_iload_n 40 C dX12_back_39 rfl rfl rfl ?_
              refine x_bipush 42 C dX12_back_40 rfl rfl ?_
              refine x_icmp_ge 93 45 C dX12_back_42 rfl rfl (by omega) (by omega) (fun h42 => ?_) (fun h42 => ?_)
              · refine x_iconst 94 C dX12_back_93 rfl ?_
                refine x_istore_n1 95 C dX12_back_94 rfl rfl ?_
                have L95 : ∀ (m : Nat) (k : Nat) (y : Int) (s3 : Sig), m = 5 - k → (k ≤ 5 ∧ y = k ∧ (∀ a b, a ≠ 55 → a ≠ 57 → a ≠ 58 → a ≠ 59 → a ≠ 60 → a ≠ 61 → a ≠ 62 → s3 a b = σ a b) ∧ ((∀ b, b < 36 → s3 55 b = σ 72 b) ∧ (∀ b, 36 ≤ b → s3 55 b = σ 55 b) ∧ (∀ b, b < 6 → s3 57 b = σ 73 b ∧ s3 58 b = σ 73 (6 + b) ∧ s3 59 b = σ 73 (12 + b)) ∧ (∀ b, 6 ≤ b → s3 57 b = σ 57 b ∧ s3 58 b = σ 58 b ∧ s3 59 b = σ 59 b)) ∧ (∀ b, b < k → s3 60 b = σ 74 b ∧ s3 61 b = σ 74 (5 + b) ∧ s3 62 b = σ 74 (10 + b)) ∧ (∀ b, k ≤ b → s3 60 b = σ 60 b ∧ s3 61 b = σ 61 b ∧ s3 62 b = σ 62 b)) → Ex K G (NN tc) ρ (shp tc cl) 95 [some (.ref (ρ 51)), some (.int (iZ y))] [] s3 := by
                  intro m
                  induction m using Nat.strongRecOn with
                  | ind m ih =>
                    intro k y s3 hm hinv
                    obtain ⟨hk5, rfl, hf3, hh3, hd3, he3⟩ := hinv
                    refine x_iload_n 96 C dX12_back_95 rfl rfl rfl ?_
                    refine x_iconst 97 C dX12_back_96 rfl ?_
                    refine x_icmp_ge 147 100 C dX12_back_97 rfl rfl (by omega) (by omega) (fun h97 => ?_) (fun h97 => ?_)
                    · refine x_aload_n 148 C dX12_back_147 rfl rfl rfl ?_
                      refine x_aload_n 149 C dX12_back_148 rfl rfl rfl ?_
                      refine x_geti (j := 48) 152 C rfl (lt79 (by decide)) rfl rfl (by decide) inT12 tb_4_182 rfl dX12_back_149 rfl (fun r149 => ?_)
                      refine x_puti (j := 18) tyX12 155 C rfl (lt79 (by decide)) rfl rfl (by decide) inT12 tyX12_ok nmX12 tb_4_152 rfl rfl rfl dX12_back_152 rfl (by omega) ?_
                      refine x_aload_n 156 C dX12_back_155 rfl rfl rfl ?_
                      refine x_aload_n 157 C dX12_back_156 rfl rfl rfl ?_
                      refine x_geti (j := 49) 160 C rfl (lt79 (by decide)) rfl rfl (by decide) inT12 tb_4_183 rfl dX12_back_157 rfl (fun r157 => ?_)
                      refine x_puti (j := 13) tyX12 163 C rfl (lt79 (by decide)) rfl rfl (by decide) inT12 tyX12_ok nmX12 tb_4_147 rfl rfl rfl dX12_back_160 rfl (by omega) ?_
                      refine x_aload_n 164 C dX12_back_163 rfl rfl rfl ?_
                      refine x_aload_n 165 C dX12_back_164 rfl rfl rfl ?_
                      refine x_geti (j := 50) 168 C rfl (lt79 (by decide)) rfl rfl (by decide) inT12 tb_4_184 rfl dX12_back_165 rfl (fun r165 => ?_)
                      refine x_puti (j := 8) tyX12 171 C rfl (lt79 (by decide)) rfl rfl (by decide) inT12 tyX12_ok nmX12 tb_4_142 rfl rfl rfl dX12_back_168 rfl (by omega) ?_
                      refine x_aload_n 172 C dX12_back_171 rfl rfl rfl ?_
                      refine x_aload_n 173 C dX12_back_172 rfl rfl rfl ?_
                      refine x_geti (j := 51) 176 C rfl (lt79 (by decide)) rfl rfl (by decide) inT12 tb_4_185 rfl dX12_back_173 rfl (fun r173 => ?_)
                      refine x_puti (j := 4) tyX12 179 C rfl (lt79 (by decide)) rfl rfl (by decide) inT12 tyX12_ok nmX12 tb_4_138 rfl rfl rfl dX12_back_176 rfl (by omega) ?_
                      refine x_aload_n 180 C dX12_back_179 rfl rfl rfl ?_
                      refine x_geti (j := 18) 183 C rfl (lt79 (by decide)) rfl rfl (by decide) inT12 tb_4_152 rfl dX12_back_180 rfl (fun r180 => ?_)
                      refine x_iret C T dX12_back_183 ?_
                      first
                        | (refine PI_i (by omega) ⟨fun h => ⟨rfl, rfl⟩, fun h => absurd (by omega) h⟩; done)
                        | (have hq : ∀ b, s3 51 b = σ 51 b := fun b => hf3 51 b (by omega) (by omega) (by omega) (by omega) (by omega) (by omega) (by omega)
                           refine PI_i (by assumption) ⟨fun h => absurd h (by omega), fun h => ⟨?_, ?_, ?_, ?_, ?_, ?_, ?_, ?_, ?_⟩⟩
                           · simp [up, hq]
                           · intro a b h1 h2 h3 h4 h5 h6 h7 h8
                             by_cases ha : a = 51
                             · subst ha
                               rw [up_i (by omega), up_i (by omega), up_i (by omega), up_i (by omega)]
                               exact hq b
                             · rw [up_r ha, up_r ha, up_r ha, up_r ha]
                               exact hf3 a b h1 h2 h3 h4 h5 h6 h7
                           · intro b
                             rw [up_r (by omega), up_r (by omega), up_r (by omega), up_r (by omega)]
                             by_cases hb : b < 36
                             · rw [if_pos hb]; exact hh3.1 b hb
                             · rw [if_neg hb]; exact hh3.2.1 b (by omega)
                           · intro b
                             simp only [up_r (show (57 : Nat) ≠ 51 by decide), up_r (show (58 : Nat) ≠ 51 by decide), up_r (show (59 : Nat) ≠ 51 by decide)]
                             by_cases hb : b < 6
                             · rw [if_pos hb, if_pos hb, if_pos hb]; exact hh3.2.2.1 b hb
                             · rw [if_neg hb, if_neg hb, if_neg hb]; exact hh3.2.2.2 b (by omega)
                           · intro b
                             simp only [up_r (show (60 : Nat) ≠ 51 by decide), up_r (show (61 : Nat) ≠ 51 by decide), up_r (show (62 : Nat) ≠ 51 by decide)]
                             by_cases hb : b < 5
                             · rw [if_pos hb, if_pos hb, if_pos hb]; exact hd3 b (by omega)
                             · rw [if_neg hb, if_neg hb, if_neg hb]; exact he3 b (by omega)
                           · simp [up, hq]
                           · simp [up, hq]
                           · simp [up, hq]
                           · simp [up, hq])
                    refine x_aload_n 101 C dX12_back_100 rfl rfl rfl ?_
                    refine x_getr (j := 14) 104 C rfl (lt79 (by decide)) rfl rfl (by decide) inT12 tb_4_148 rfl dX12_back_101 rfl ?_
                    refine x_iload_n 105 C dX12_back_104 rfl rfl rfl ?_
                    refine x_aload_n 106 C dX12_back_105 rfl rfl rfl ?_
                    refine x_getr (j := 47) 109 C rfl (lt79 (by decide)) rfl rfl (by decide) inT12 tb_4_181 rfl dX12_back_106 rfl ?_
                    refine x_iload_n 110 C dX12_back_109 rfl rfl rfl ?_
                    refine x_iald 111 C rfl (lt79 (by decide)) dX12_back_110 rfl (by omega) (by omega) (fun r110 => ?_)
                    refine x_iast 112 C rfl (lt79 (by decide)) dX12_back_111 rfl (by omega) (by omega) (by omega) ?_
                    refine x_aload_n 113 C dX12_back_112 rfl rfl rfl ?_
                    refine x_getr (j := 15) 116 C rfl (lt79 (by decide)) rfl rfl (by decide) inT12 tb_4_149 rfl dX12_back_113 rfl ?_
                    refine x_iload_n 117 C dX12_back_116 rfl rfl rfl ?_
                    refine x_aload_n 118 C dX12_back_117 rfl rfl rfl ?_
                    refine x_getr (j := 47) 121 C rfl (lt79 (by decide)) rfl rfl (by decide) inT12 tb_4_181 rfl dX12_back_118 rfl ?_
                    refine x_iconst 122 C dX12_back_121 rfl ?_
                    refine x_iload_n 123 C dX12_back_122 rfl rfl rfl ?_
                    refine x_iadd 124 C dX12_back_123 rfl ?_
                    refine x_iald 125 C rfl (lt79 (by decide)) dX12_back_124 rfl (by omega) (by omega) (fun r124 => ?_)
                    refine x_iast 126 C rfl (lt79 (by decide)) dX12_back_125 rfl (by omega) (by omega) (by omega) ?_
                    refine x_aload_n 127 C dX12_back_126 rfl rfl rfl ?_
                    refine x_getr (j := 16) 130 C rfl (lt79 (by decide)) rfl rfl (by decide) inT12 tb_4_150 rfl dX12_back_127 rfl ?_
                    refine x_iload_n 131 C dX12_back_130 rfl rfl rfl ?_
                    refine x_aload_n 132 C dX12_back_131 rfl rfl rfl ?_
                    refine x_getr (j := 47) 135 C rfl (lt79 (by decide)) rfl rfl (by decide) inT12 tb_4_181 rfl dX12_back_132 rfl ?_
                    refine x_bipush 137 C dX12_back_135 rfl rfl ?_
                    refine x_iload_n 138 C dX12_back_137 rfl rfl rfl ?_
                    refine x_iadd 139 C dX12_back_138 rfl ?_
                    refine x_iald 140 C rfl (lt79 (by decide)) dX12_back_139 rfl (by omega) (by omega) (fun r139 => ?_)
                    refine x_iast 141 C rfl (lt79 (by decide)) dX12_back_140 rfl (by omega) (by omega) (by omega) ?_
                    refine x_iinc_1 144 C dX12_back_141 rfl rfl ?_
                    refine x_goto 95 C dX12_back_144 rfl ?_
                    have i1 : (5 + (k : Int)).toNat = 5 + k := by omega
                    have i2 : (10 + (k : Int)).toNat = 10 + k := by omega
                    refine ih _ (by omega) (k + 1) _ _ rfl ⟨by omega, by omega, fun a b h1 h2 h3 h4 h5 h6 h7 => by rw [up_r h7, up_r h6, up_r h5]; exact hf3 a b h1 h2 h3 h4 h5 h6 h7, by simp only [up_r (show (55 : Nat) ≠ 60 by decide), up_r (show (55 : Nat) ≠ 61 by decide), up_r (show (55 : Nat) ≠ 62 by decide), up_r (show (57 : Nat) ≠ 60 by decide), up_r (show (57 : Nat) ≠ 61 by decide), up_r (show (57 : Nat) ≠ 62 by decide), up_r (show (58 : Nat) ≠ 60 by decide), up_r (show (58 : Nat) ≠ 61 by decide), up_r (show (58 : Nat) ≠ 62 by decide), up_r (show (59 : Nat) ≠ 60 by decide), up_r (show (59 : Nat) ≠ 61 by decide), up_r (show (59 : Nat) ≠ 62 by decide)]; exact hh3, fun b hb => ?_, fun b hb => ?_⟩
                    · rw [i1, i2, Int.toNat_natCast]
                      by_cases hbj : b = k
                      · subst hbj
                        refine ⟨?_, ?_, ?_⟩
                        · rw [up_r (by omega), up_r (by omega), up_s]; exact hf3 74 b (by omega) (by omega) (by omega) (by omega) (by omega) (by omega) (by omega)
                        · rw [up_r (by omega), up_s, up_r (by omega)]; exact hf3 74 (5 + b) (by omega) (by omega) (by omega) (by omega) (by omega) (by omega) (by omega)
                        · rw [up_s, up_r (by omega), up_r (by omega)]; exact hf3 74 (10 + b) (by omega) (by omega) (by omega) (by omega) (by omega) (by omega) (by omega)
                      · have := hd3 b (by omega)
                        refine ⟨?_, ?_, ?_⟩
                        · rw [up_r (by omega), up_r (by omega), up_i (by omega)]; exact this.1
                        · rw [up_r (by omega), up_i (by omega), up_r (by omega)]; exact this.2.1
                        · rw [up_i (by omega), up_r (by omega), up_r (by omega)]; exact this.2.2
                    · rw [i1, i2, Int.toNat_natCast]
                      have := he3 b (by omega)
                      refine ⟨?_, ?_, ?_⟩
                      · rw [up_r (by omega), up_r (by omega), up_i (by omega)]; exact this.1
                      · rw [up_r (by omega), up_i (by omega), up_r (by omega)]; exact this.2.1
                      · rw [up_i (by omega), up_r (by omega), up_r (by omega)]; exact this.2.2
                exact L95 _ 0 _ _ rfl ⟨by omega, rfl, fun a b h1 h2 h3 h4 _ _ _ => hf2 a b h1 h2 h3 h4, ⟨hh2.1, hh2.2, fun b hb => hd2 b (by omega), fun b hb => he2 b (by omega)⟩, fun b hb => absurd hb (by omega), fun b _ => ⟨hf2 60 b (by omega) (by omega) (by omega) (by omega), hf2 61 b (by omega) (by omega) (by omega) (by omega), hf2 62 b (by omega) (by omega) (by omega) (by omega)⟩⟩
              refine x_aload_n 46 C dX12_back_45 rfl rfl rfl ?_
              refine x_getr (j := 10) 49 C rfl (lt79 (by decide)) rfl rfl (by decide) inT12 tb_4_144 rfl dX12_back_46 rfl ?_
              refine x_iload_n 50 C dX12_back_49 rfl rfl rfl ?_
              refine x_aload_n 51 C dX12_back_50 rfl rfl rfl ?_
              refine x_getr (j := 46) 54 C rfl (lt79 (by decide)) rfl rfl (by decide) inT12 tb_4_180 rfl dX12_back_51 rfl ?_
              refine x_iload_n 55 C dX12_back_54 rfl rfl rfl ?_
              refine x_iald 56 C rfl (lt79 (by decide)) dX12_back_55 rfl (by omega) (by omega) (fun r55 => ?_)
              refine x_iast 57 C rfl (lt79 (by decide)) dX12_back_56 rfl (by omega) (by omega) (by omega) ?_
              refine x_aload_n 58 C dX12_back_57 rfl rfl rfl ?_
              refine x_getr (j := 11) 61 C rfl (lt79 (by decide)) rfl rfl (by decide) inT12 tb_4_145 rfl dX12_back_58 rfl ?_
              refine x_iload_n 62 C dX12_back_61 rfl rfl rfl ?_
              refine x_aload_n 63 C dX12_back_62 rfl rfl rfl ?_
              refine x_getr (j := 46) 66 C rfl (lt79 (by decide)) rfl rfl (by decide) inT12 tb_4_180 rfl dX12_back_63 rfl ?_
              refine x_bipush 68 C dX12_back_66 rfl rfl ?_
              refine x_iload_n 69 C dX12_back_68 rfl rfl rfl ?_
              refine x_iadd 70 C dX12_back_69 rfl ?_
              refine x_iald 71 C rfl (lt79 (by decide)) dX12_back_70 rfl (by omega) (by omega) (fun r70 => ?_)
              refine x_iast 72 C rfl (lt79 (by decide)) dX12_back_71 rfl (by omega) (by omega) (by omega) ?_
              refine x_aload_n 73 C dX12_back_72 rfl rfl rfl ?_
              refine x_getr (j := 12) 76 C rfl (lt79 (by decide)) rfl rfl (by decide) inT12 tb_4_146 rfl dX12_back_73 rfl ?_
              refine x_iload_n 77 C dX12_back_76 rfl rfl rfl ?_
              refine x_aload_n 78 C dX12_back_77 rfl rfl rfl ?_
              refine x_getr (j := 46) 81 C rfl (lt79 (by decide)) rfl rfl (by decide) inT12 tb_4_180 rfl dX12_back_78 rfl ?_
              refine x_bipush 83 C dX12_back_81 rfl rfl ?_
              refine x_iload_n 84 C dX12_back_83 rfl rfl rfl ?_
              refine x_iadd 85 C dX12_back_84 rfl ?_
              refine x_iald 86 C rfl (lt79 (by decide)) dX12_back_85 rfl (by omega) (by omega) (fun r85 => ?_)
              refine x_iast 87 C rfl (lt79 (by decide)) dX12_back_86 rfl (by omega) (by omega) (by omega) ?_
              refine x_iinc_1 90 C dX12_back_87 rfl rfl ?_
              refine x_goto 39 C dX12_back_90 rfl ?_
              have i1 : (6 + (j : Int)).toNat = 6 + j := by omega
              have i2 : (12 + (j : Int)).toNat = 12 + j := by omega
              refine ih _ (by omega) (j + 1) _ _ rfl ⟨by omega, by omega, fun a b h1 h2 h3 h4 => by rw [up_r h4, up_r h3, up_r h2]; exact hf2 a b h1 h2 h3 h4, by simp only [up_r (show (55 : Nat) ≠ 59 by decide), up_r (show (55 : Nat) ≠ 58 by decide), up_r (show (55 : Nat) ≠ 57 by decide)]; exact hh2, fun b hb => ?_, fun b hb => ?_⟩
              · rw [i1, i2, Int.toNat_natCast]
                by_cases hbj : b = j
                · subst hbj
                  refine ⟨?_, ?_, ?_⟩
                  · rw [up_r (by omega), up_r (by omega), up_s]; exact hf2 73 b (by omega) (by omega) (by omega) (by omega)
                  · rw [up_r (by omega), up_s, up_r (by omega)]; exact hf2 73 (6 + b) (by omega) (by omega) (by omega) (by omega)
                  · rw [up_s, up_r (by omega), up_r (by omega)]; exact hf2 73 (12 + b) (by omega) (by omega) (by omega) (by omega)
                · have := hd2 b (by omega)
                  refine ⟨?_, ?_, ?_⟩
                  · rw [up_r (by omega), up_r (by omega), up_i (by omega)]; exact this.1
                  · rw [up_r (by omega), up_i (by omega), up_r (by omega)]; exact this.2.1
                  · rw [up_i (by omega), up_r (by omega), up_r (by omega)]; exact this.2.2
              · rw [i1, i2, Int.toNat_natCast]
                have := he2 b (by omega)
                refine ⟨?_, ?_, ?_⟩
                · rw [up_r (by omega), up_r (by omega), up_i (by omega)]; exact this.1
                · rw [up_r (by omega), up_i (by omega), up_r (by omega)]; exact this.2.1
                · rw [up_i (by omega), up_r (by omega), up_r (by omega)]; exact this.2.2
          exact L39 _ 0 _ _ rfl ⟨by omega, rfl, fun a b h _ _ _ => hf a b h, ⟨fun b hb => hd b (by omega), fun b hb => he b (by omega)⟩, fun b hb => absurd hb (by omega), fun b _ => ⟨hf 57 b (by omega), hf 58 b (by omega), hf 59 b (by omega)⟩⟩
        refine x_aload_n 20 C dX12_back_19 rfl rfl rfl ?_
        refine x_getr (j := 7) 23 C rfl (lt79 (by decide)) rfl rfl (by decide) inT12 tb_4_141 rfl dX12_back_20 rfl ?_
        refine x_iload_n 24 C dX12_back_23 rfl rfl rfl ?_
        refine x_aload_n 25 C dX12_back_24 rfl rfl rfl ?_
        refine x_getr (j := 45) 28 C rfl (lt79 (by decide)) rfl rfl (by decide) inT12 tb_4_179 rfl dX12_back_25 rfl ?_
        refine x_iload_n 29 C dX12_back_28 rfl rfl rfl ?_
        refine x_iald 30 C rfl (lt79 (by decide)) dX12_back_29 rfl (by omega) (by omega) (fun r29 => ?_)
        refine x_iast 31 C rfl (lt79 (by decide)) dX12_back_30 rfl (by omega) (by omega) (by omega) ?_
        refine x_iinc_1 34 C dX12_back_31 rfl rfl ?_
        refine x_goto 13 C dX12_back_34 rfl ?_
        refine ih _ (by omega) (i + 1) _ _ rfl ⟨by omega, by omega, fun a b ha => by rw [up_r ha]; exact hf a b ha, fun b hb => ?_, fun b hb => ?_⟩
        · rw [Int.toNat_natCast]
          by_cases hbi : b = i
          · subst hbi; rw [up_s, hf 72 b (by omega)]
          · rw [up_i hbi]; exact hd b (by omega)
        · rw [Int.toNat_natCast, up_i (by omega)]; exact he b (by omega)
    exact L13 _ 0 _ _ rfl ⟨by omega, rfl, fun _ _ _ => rfl, fun b hb => absurd hb (by omega), fun _ _ => rfl⟩
  refine x_bipush 10 C dX12_back_8 rfl rfl ?_
  refine x_iret C T dX12_back_10 ?_
  first
    | (refine PI_i (by omega) ⟨fun h => ⟨rfl, rfl⟩, fun h => absurd (by omega) h⟩; done)
    | (have hq : ∀ b, s3 51 b = σ 51 b := fun b => hf3 51 b (by omega) (by omega) (by omega) (by omega) (by omega) (by omega) (by omega)
       refine PI_i (by assumption) ⟨fun h => absurd h (by omega), fun h => ⟨?_, ?_, ?_, ?_, ?_, ?_, ?_, ?_, ?_⟩⟩
       · simp [up, hq]
       · intro a b h1 h2 h3 h4 h5 h6 h7 h8
         by_cases ha : a = 51
         · subst ha
           rw [up_i (by omega), up_i (by omega), up_i (by omega), up_i (by omega)]
           exact hq b
         · rw [up_r ha, up_r ha, up_r ha, up_r ha]
           exact hf3 a b h1 h2 h3 h4 h5 h6 h7
       · intro b
         rw [up_r (by omega), up_r (by omega), up_r (by omega), up_r (by omega)]
         by_cases hb : b < 36
         · rw [if_pos hb]; exact hh3.1 b hb
         · rw [if_neg hb]; exact hh3.2.1 b (by omega)
       · intro b
         simp only [up_r (show (57 : Nat) ≠ 51 by decide), up_r (show (58 : Nat) ≠ 51 by decide), up_r (show (59 : Nat) ≠ 51 by decide)]
         by_cases hb : b < 6
         · rw [if_pos hb, if_pos hb, if_pos hb]; exact hh3.2.2.1 b hb
         · rw [if_neg hb, if_neg hb, if_neg hb]; exact hh3.2.2.2 b (by omega)
       · intro b
         simp only [up_r (show (60 : Nat) ≠ 51 by decide), up_r (show (61 : Nat) ≠ 51 by decide), up_r (show (62 : Nat) ≠ 51 by decide)]
         by_cases hb : b < 5
         · rw [if_pos hb, if_pos hb, if_pos hb]; exact hd3 b (by omega)
         · rw [if_neg hb, if_neg hb, if_neg hb]; exact he3 b (by omega)
       · simp [up, hq]
       · simp [up, hq]
       · simp [up, hq]
       · simp [up, hq])
