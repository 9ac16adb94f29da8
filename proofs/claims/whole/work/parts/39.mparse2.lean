theorem kM_2 {b : Nat → Int} {n p : Nat} (h : kM b n p = 2) : lxT b n p = 2 := by
  rcases kM_cases b n p with c | c | c | c | c <;> omega
theorem kM_1 {b : Nat → Int} {n p : Nat} (h : kM b n p = 1) : lxT b n p ≠ 2 ∧ lxT b n p ≠ 45 ∧ lxT b n p ≠ 40 := by
  rcases kM_cases b n p with c | c | c | c | c
  · omega
  · rcases c.2.2.2.2.2.2 with d | d | d <;> omega
  · omega
  · omega
  · omega
theorem kM_n {b : Nat → Int} {n p : Nat} (h1 : kM b n p ≠ 1) (h2 : kM b n p ≠ 2) : lxT b n p ≠ 2 ∧ lxT b n p ≠ 3 := by
  rcases kM_cases b n p with c | c | c | c | c
  · omega
  · omega
  · omega
  · have := bS_in c.2.2.1; omega
  · omega
/-- behind what stands between ( and ): the ) is there, or it has failed -/
def P71 (σ0 : Sig) (F n : Nat) (u : Int) (D : Nat) (R : Pr) (z : Int) (s : Sig) : Prop := (∃ p1 L1, R = .inl (p1, L1) ∧ Bal (nmM σ0) D L1 z ∧ MSt σ0 F n p1 u s ∧ lxT (bM σ0 F) n p1 = 41) ∨ (∃ a, (R = .inr a ∨ ∃ p1 L1, R = .inl (p1, L1) ∧ lxT (bM σ0 F) n p1 ≠ 41 ∧ a = lxA (bM σ0 F) n p1) ∧ MBad σ0 a u s)
theorem P71_u {σ0 s : Sig} {F n D : Nat} {u : Int} {R : Pr} {z : Int} (h : P71 σ0 F n u D R z s) : s 51 31 = u ∧ (s 51 32 = 0 ∨ s 51 32 = 1) := by
  rcases h with ⟨p1, L1, h1, h2, h3, h4⟩ | ⟨a, h1, h2⟩
  · exact ⟨MSt_u h3, Or.inl (MSt_bad h3)⟩
  · exact ⟨h2.2.2.2, Or.inr h2.2.1⟩
theorem P71_good {σ0 s : Sig} {F n D : Nat} {u : Int} {R : Pr} {z : Int} (h : P71 σ0 F n u D R z s) (hb : s 51 32 = 0) : ∃ p1 L1, R = .inl (p1, L1) ∧ Bal (nmM σ0) D L1 z ∧ MSt σ0 F n p1 u s ∧ lxT (bM σ0 F) n p1 = 41 := by
  rcases h with h | ⟨a, h1, h2⟩
  · exact h
  · have := h2.2.1; omega
theorem P71_bad {σ0 s : Sig} {F n D : Nat} {u : Int} {R : Pr} {z : Int} (h : P71 σ0 F n u D R z s) (hb : s 51 32 ≠ 0) : ∃ a, (R = .inr a ∨ ∃ p1 L1, R = .inl (p1, L1) ∧ lxT (bM σ0 F) n p1 ≠ 41 ∧ a = lxA (bM σ0 F) n p1) ∧ MBad σ0 a u s := by
  rcases h with ⟨p1, L1, h1, h2, h3, h4⟩ | h
  · exact absurd (MSt_bad h3) hb
  · exact h
set_option maxHeartbeats 4000000 in
set_option maxRecDepth 100000 in
theorem c_X12_atom {l : Launch} {G : Gt} {ρ : Nat → Nat} {tc : Nat} {cl : Nat → Nat} {σ : Sig} {σ0 : Sig} {F n p k : Nat} {u : Int} (hS : MSt σ0 F n p u σ) (hk : u + k = 5 ∧ 0 ≤ u) (hO : ∀ k', k' + 1 = k → PCm l G ρ tc cl yX12_atom cX12_atom 2 (8 + 7 * k') (200 + 168 * k') (k') (5 * k' + 1) (fun b n => pOne b n k')) (hE : ∀ k', k' + 1 = k → PCm l G ρ tc cl yX12_either cX12_either 3 (14 + 7 * k') (344 + 168 * k') (k') (5 * k' + 6) (fun b n => pOr b n k')) : MX l yX12_atom cX12_atom 2 (some .int) (8 + 7 * k) (200 + 168 * k) G (NN tc) ρ (shp tc cl) [.ref (ρ 51)] σ (PI (fun z σ' => PPm σ0 F n u (5 * k + 1) (pOne (bM σ0 F) n k p) z σ')) := by
  refine MX_of [some (.ref (ρ 51)), none] (by decide +kernel) rfl rfl (Nat.le_of_ble_eq_true rfl) ?_
  intro K hKl C T hRng
  subst hKl
  have hT := CT_good hS
  have hpn := MSt_le hS
  have hbad := MSt_bad hS
  have htk := hS.2.2.2.1.2.1
  have e51 : σ (51 + 1000) 30 = σ 1051 30 := rfl
  have hnr : ∀ j, -2147483648 ≤ nmM σ0 j ∧ nmM σ0 j ≤ 2147483647 := by rw [← nmM_FM hS.2.2.1]; exact nmM_in hRng
  refine x_iconst 1 C dX12_atom_0 rfl ?_
  refine x_istore_n1 2 C dX12_atom_1 rfl rfl ?_
  refine x_aload_n 3 C dX12_atom_2 rfl rfl rfl ?_
  refine x_bipush 5 C dX12_atom_3 rfl rfl ?_
  refine x_callVe 8 C dX12_atom_5 rfl (c_X12_isSign hT (by omega)) rfl (lt79 (by decide)) rfl tb_5_190 tb_5_192 tb_0_54 tb_1_20 tb_5_193 (na := 1) (by decide +kernel) rfl ⟨by omega, by omega⟩ rfl (Nat.le_of_ble_eq_true rfl) rfl (fun r5 => ?_)
  first
    | refine x_ifb_eq 37 11 C dX12_atom_8 rfl rfl (fun h8 => ?_) (fun h8 => ?_)
    | refine x_if_eq 37 11 C dX12_atom_8 rfl rfl (by omega) (fun h8 => ?_) (fun h8 => ?_)
  · refine x_aload_n 38 C dX12_atom_37 rfl rfl rfl ?_
    refine x_bipush 40 C dX12_atom_38 rfl rfl ?_
    refine x_callVe 43 C dX12_atom_40 rfl (c_X12_isSign hT (by omega)) rfl (lt79 (by decide)) rfl tb_5_190 tb_5_192 tb_0_54 tb_1_20 tb_5_193 (na := 1) (by decide +kernel) rfl ⟨by omega, by omega⟩ rfl (Nat.le_of_ble_eq_true rfl) rfl (fun r40 => ?_)
    first
      | refine x_ifb_eq 95 46 C dX12_atom_43 rfl rfl (fun h43 => ?_) (fun h43 => ?_)
      | refine x_if_eq 95 46 C dX12_atom_43 rfl rfl (by omega) (fun h43 => ?_) (fun h43 => ?_)
    · refine x_aload_n 96 C dX12_atom_95 rfl rfl rfl ?_
      refine x_geti (j := 32) 99 C rfl (lt79 (by decide)) rfl rfl (by decide) inT12 tb_4_166 rfl dX12_atom_96 rfl (fun r96 => ?_)
      refine x_if_ne 123 102 C dX12_atom_99 rfl rfl (by omega) (fun h99 => ?_) (fun h99 => ?_)
      · exfalso; omega --END
      refine x_aload_n 103 C dX12_atom_102 rfl rfl rfl ?_
      refine x_geti (j := 28) 106 C rfl (lt79 (by decide)) rfl rfl (by decide) inT12 tb_4_162 rfl dX12_atom_103 rfl (fun r103 => ?_)
      refine x_iconst 107 C dX12_atom_106 rfl ?_
      refine x_icmp_ne 123 110 C dX12_atom_107 rfl rfl (by omega) (by omega) (fun h107 => ?_) (fun h107 => ?_)
      rotate_left
      · have h2t : lxT (bM σ0 F) n p = 2 := kM_2 (by omega)
        have hv := hS.2.2.2.1.2.2.2.1 (by omega)
        have hvr := lx2_val h2t
        refine x_aload_n 111 C dX12_atom_110 rfl rfl rfl ?_
        refine x_getl (j := 30) 114 C rfl (lt79 (by decide)) rfl rfl (by decide) inT12 tb_4_164 rfl dX12_atom_111 rfl ?_
        refine x_l2i 115 C dX12_atom_114 rfl (by omega) ?_
        refine x_istore_n1 116 C dX12_atom_115 rfl rfl ?_
        refine x_aload_n 117 C dX12_atom_116 rfl rfl rfl ?_
        refine x_callVv 120 C dX12_atom_117 rfl (c_X12_nextToken (q := lxE (bM σ0 F) n p) (MSt_HG hS) (MSt_here hS (kM_ne4 (by omega))) (MSt_ele hS)) rfl (lt79 (by decide)) rfl tb_5_133 tb_5_135 tb_0_41 tb_1_20 tb_5_136 (na := 0) (by decide +kernel) rfl ⟨by omega, by omega⟩ rfl (Nat.le_of_ble_eq_true rfl) rfl (fun s117 hq117 hR117 => ?_)
        have hS4 := MSt_next hS hq117.1 hq117.2
        refine x_goto 161 C dX12_atom_120 rfl ?_
        refine x_iload_n 162 C dX12_atom_161 rfl rfl rfl ?_
        refine x_iret C T dX12_atom_162 ?_
        refine PI_i (by first | omega | exact wrap_in _) ?_
        first
          | exact hfin
          | (rw [pOne_num h2t, hv]; exact ⟨bal_up (bal_num ⟨by omega, by omega⟩) (by omega), hS4⟩)
          | (rw [pOne_name h3t, hzn, hvj, Int.toNat_natCast]; exact ⟨bal_up (bal_name hj (hnr j)) (by omega), hS4⟩)
          | (rw [pOne_bad hno.1 hno.2.1 (Or.inr ⟨hno.2.2.1, hno.2.2.2⟩)]; exact MSt_fail hS hq158)
          | (rw [pOne_par (by omega), g1]; dsimp only; rw [if_pos g4]; exact ⟨bal_up g2 (by omega), hS4⟩)
          | (rw [pOne_neg (by omega), show s19 51 31 - 1 = u by omega]
             obtain ⟨T3, W3, hT3, ⟨p2, L2, g1, g2, g3, g4⟩ | ⟨a, g1, g2, g3⟩⟩ := PPm_ct hq19
             · rw [show pOne (bM σ0 F) n k' (lxE (bM σ0 F) n p) = _ from g1]
               exact ⟨bal_up (bal_neg g2) (by omega), MSt_open g3⟩
             · rw [show pOne (bM σ0 F) n k' (lxE (bM σ0 F) n p) = _ from g1]; exact MBad_open g2)
      refine x_aload_n 124 C dX12_atom_123 rfl rfl rfl ?_
      refine x_geti (j := 32) 127 C rfl (lt79 (by decide)) rfl rfl (by decide) inT12 tb_4_166 rfl dX12_atom_124 rfl (fun r124 => ?_)
      refine x_if_ne 157 130 C dX12_atom_127 rfl rfl (by omega) (fun h127 => ?_) (fun h127 => ?_)
      · exfalso; omega --END
      refine x_aload_n 131 C dX12_atom_130 rfl rfl rfl ?_
      refine x_geti (j := 28) 134 C rfl (lt79 (by decide)) rfl rfl (by decide) inT12 tb_4_162 rfl dX12_atom_131 rfl (fun r131 => ?_)
      refine x_iconst 135 C dX12_atom_134 rfl ?_
      refine x_icmp_ne 157 138 C dX12_atom_135 rfl rfl (by omega) (by omega) (fun h135 => ?_) (fun h135 => ?_)
      · have hkn := kM_n (show kM (bM σ0 F) n p ≠ 1 by omega) (show kM (bM σ0 F) n p ≠ 2 by omega)
        have hno : lxT (bM σ0 F) n p ≠ 2 ∧ lxT (bM σ0 F) n p ≠ 3 ∧ lxT (bM σ0 F) n p ≠ 45 ∧ lxT (bM σ0 F) n p ≠ 40 := by omega
        refine x_aload_n 158 C dX12_atom_157 rfl rfl rfl ?_
        refine x_callVv 161 C dX12_atom_158 rfl (c_X12_fail) rfl (lt79 (by decide)) rfl tb_5_158 tb_5_160 tb_0_46 tb_1_20 tb_5_161 (na := 0) (by decide +kernel) rfl ⟨by omega, by omega⟩ rfl (Nat.le_of_ble_eq_true rfl) rfl (fun s158 hq158 hR158 => ?_)
        refine x_iload_n 162 C dX12_atom_161 rfl rfl rfl ?_
        refine x_iret C T dX12_atom_162 ?_
        refine PI_i (by first | omega | exact wrap_in _) ?_
        first
          | exact hfin
          | (rw [pOne_num h2t, hv]; exact ⟨bal_up (bal_num ⟨by omega, by omega⟩) (by omega), hS4⟩)
          | (rw [pOne_name h3t, hzn, hvj, Int.toNat_natCast]; exact ⟨bal_up (bal_name hj (hnr j)) (by omega), hS4⟩)
          | (rw [pOne_bad hno.1 hno.2.1 (Or.inr ⟨hno.2.2.1, hno.2.2.2⟩)]; exact MSt_fail hS hq158)
          | (rw [pOne_par (by omega), g1]; dsimp only; rw [if_pos g4]; exact ⟨bal_up g2 (by omega), hS4⟩)
          | (rw [pOne_neg (by omega), show s19 51 31 - 1 = u by omega]
             obtain ⟨T3, W3, hT3, ⟨p2, L2, g1, g2, g3, g4⟩ | ⟨a, g1, g2, g3⟩⟩ := PPm_ct hq19
             · rw [show pOne (bM σ0 F) n k' (lxE (bM σ0 F) n p) = _ from g1]
               exact ⟨bal_up (bal_neg g2) (by omega), MSt_open g3⟩
             · rw [show pOne (bM σ0 F) n k' (lxE (bM σ0 F) n p) = _ from g1]; exact MBad_open g2)
      have hk1 := kM_1 (show kM (bM σ0 F) n p = 1 by omega)
      refine x_aload_n 139 C dX12_atom_138 rfl rfl rfl ?_
      refine x_callVi 142 C dX12_atom_139 rfl (c_X12_name hS h135) rfl (lt79 (by decide)) rfl tb_5_194 tb_5_196 tb_0_55 tb_1_20 tb_5_197 (na := 0) (by decide +kernel) rfl ⟨by omega, by omega⟩ rfl (Nat.le_of_ble_eq_true rfl) rfl (fun z139 s139 hz139 hq139 hR139 => ?_)
      have h3 : lxT (bM σ0 F) n p = 3 ∨ lxT (bM σ0 F) n p ≠ 3 := by omega
      have hb139 : s139 51 32 = 0 ∨ s139 51 32 = 1 := by
        rcases h3 with h | h
        · rw [(hq139.1 h).2]; exact Or.inl hbad
        · exact Or.inr (hq139.2 h).2.1
      refine x_istore_n1 143 C dX12_atom_142 rfl rfl ?_
      refine x_aload_n 144 C dX12_atom_143 rfl rfl rfl ?_
      refine x_geti (j := 32) 147 C rfl (lt79 (by decide)) rfl rfl (by decide) inT12 tb_4_166 rfl dX12_atom_144 rfl (fun r144 => ?_)
      refine x_if_ne 161 150 C dX12_atom_147 rfl rfl (by omega) (fun h147 => ?_) (fun h147 => ?_)
      · have hfin : PPm σ0 F n u (5 * k + 1) (pOne (bM σ0 F) n k p) z139 s139 := by
          rcases h3 with h | h
          · have := (hq139.1 h).2; rw [this] at h147; omega
          · rw [pOne_bad (by omega) h (Or.inr ⟨by omega, by omega⟩)]; exact hq139.2 h
        refine x_iload_n 162 C dX12_atom_161 rfl rfl rfl ?_
        refine x_iret C T dX12_atom_162 ?_
        refine PI_i (by first | omega | exact wrap_in _) ?_
        first
          | exact hfin
          | (rw [pOne_num h2t, hv]; exact ⟨bal_up (bal_num ⟨by omega, by omega⟩) (by omega), hS4⟩)
          | (rw [pOne_name h3t, hzn, hvj, Int.toNat_natCast]; exact ⟨bal_up (bal_name hj (hnr j)) (by omega), hS4⟩)
          | (rw [pOne_bad hno.1 hno.2.1 (Or.inr ⟨hno.2.2.1, hno.2.2.2⟩)]; exact MSt_fail hS hq158)
          | (rw [pOne_par (by omega), g1]; dsimp only; rw [if_pos g4]; exact ⟨bal_up g2 (by omega), hS4⟩)
          | (rw [pOne_neg (by omega), show s19 51 31 - 1 = u by omega]
             obtain ⟨T3, W3, hT3, ⟨p2, L2, g1, g2, g3, g4⟩ | ⟨a, g1, g2, g3⟩⟩ := PPm_ct hq19
             · rw [show pOne (bM σ0 F) n k' (lxE (bM σ0 F) n p) = _ from g1]
               exact ⟨bal_up (bal_neg g2) (by omega), MSt_open g3⟩
             · rw [show pOne (bM σ0 F) n k' (lxE (bM σ0 F) n p) = _ from g1]; exact MBad_open g2)
      obtain ⟨hzn, rfl⟩ : z139 = nmM σ0 (lxV (bM σ0 F) n p).toNat ∧ s139 = σ := by
        rcases h3 with h | h
        · exact hq139.1 h
        · have := (hq139.2 h).2.1; omega
      have h3t : lxT (bM σ0 F) n p = 3 := by
        rcases h3 with h | h
        · exact h
        · have := (hq139.2 h).2.1; omega
      obtain ⟨j, hj, hvj⟩ := lx3_val h3t
      refine x_aload_n 151 C dX12_atom_150 rfl rfl rfl ?_
      refine x_callVv 154 C dX12_atom_151 rfl (c_X12_nextToken (q := lxE (bM σ0 F) n p) (MSt_HG hS) (MSt_here hS (kM_ne4 (by omega))) (MSt_ele hS)) rfl (lt79 (by decide)) rfl tb_5_133 tb_5_135 tb_0_41 tb_1_20 tb_5_136 (na := 0) (by decide +kernel) rfl ⟨by omega, by omega⟩ rfl (Nat.le_of_ble_eq_true rfl) rfl (fun s151 hq151 hR151 => ?_)
      have hS4 := MSt_next hS hq151.1 hq151.2
      refine x_goto 161 C dX12_atom_154 rfl ?_
      refine x_iload_n 162 C dX12_atom_161 rfl rfl rfl ?_
      refine x_iret C T dX12_atom_162 ?_
      refine PI_i (by first | omega | exact wrap_in _) ?_
      first
        | exact hfin
        | (rw [pOne_num h2t, hv]; exact ⟨bal_up (bal_num ⟨by omega, by omega⟩) (by omega), hS4⟩)
        | (rw [pOne_name h3t, hzn, hvj, Int.toNat_natCast]; exact ⟨bal_up (bal_name hj (hnr j)) (by omega), hS4⟩)
        | (rw [pOne_bad hno.1 hno.2.1 (Or.inr ⟨hno.2.2.1, hno.2.2.2⟩)]; exact MSt_fail hS hq158)
        | (rw [pOne_par (by omega), g1]; dsimp only; rw [if_pos g4]; exact ⟨bal_up g2 (by omega), hS4⟩)
        | (rw [pOne_neg (by omega), show s19 51 31 - 1 = u by omega]
           obtain ⟨T3, W3, hT3, ⟨p2, L2, g1, g2, g3, g4⟩ | ⟨a, g1, g2, g3⟩⟩ := PPm_ct hq19
           · rw [show pOne (bM σ0 F) n k' (lxE (bM σ0 F) n p) = _ from g1]
             exact ⟨bal_up (bal_neg g2) (by omega), MSt_open g3⟩
           · rw [show pOne (bM σ0 F) n k' (lxE (bM σ0 F) n p) = _ from g1]; exact MBad_open g2)
    refine x_aload_n 47 C dX12_atom_46 rfl rfl rfl ?_
    refine x_callVi 50 C dX12_atom_47 rfl (c_X12_opens hS (by omega) (by omega)) rfl (lt79 (by decide)) rfl tb_5_174 tb_5_176 tb_0_50 tb_1_20 tb_5_177 (na := 0) (by decide +kernel) rfl ⟨by omega, by omega⟩ rfl (Nat.le_of_ble_eq_true rfl) rfl (fun z47 s47 hz47 hq47 hR47 => ?_)
    have hz47 : (u = 5 ∧ z47 = 0) ∨ (u ≠ 5 ∧ z47 = 1) := by
      by_cases h : u = 5
      · exact Or.inl ⟨h, (hq47.1 h).1⟩
      · exact Or.inr ⟨h, (hq47.2 h).1⟩
    first
      | refine x_ifb_eq 161 53 C dX12_atom_50 rfl rfl (fun h50 => ?_) (fun h50 => ?_)
      | refine x_if_eq 161 53 C dX12_atom_50 rfl rfl (by omega) (fun h50 => ?_) (fun h50 => ?_)
    · have hfin : PPm σ0 F n u (5 * k + 1) (pOne (bM σ0 F) n k p) 0 s47 := by
        obtain rfl : k = 0 := by omega
        rw [pOne_bad (by omega) (by omega) (Or.inl rfl)]; exact (hq47.1 (by omega)).2
      refine x_iload_n 162 C dX12_atom_161 rfl rfl rfl ?_
      refine x_iret C T dX12_atom_162 ?_
      refine PI_i (by first | omega | exact wrap_in _) ?_
      first
        | exact hfin
        | (rw [pOne_num h2t, hv]; exact ⟨bal_up (bal_num ⟨by omega, by omega⟩) (by omega), hS4⟩)
        | (rw [pOne_name h3t, hzn, hvj, Int.toNat_natCast]; exact ⟨bal_up (bal_name hj (hnr j)) (by omega), hS4⟩)
        | (rw [pOne_bad hno.1 hno.2.1 (Or.inr ⟨hno.2.2.1, hno.2.2.2⟩)]; exact MSt_fail hS hq158)
        | (rw [pOne_par (by omega), g1]; dsimp only; rw [if_pos g4]; exact ⟨bal_up g2 (by omega), hS4⟩)
        | (rw [pOne_neg (by omega), show s19 51 31 - 1 = u by omega]
           obtain ⟨T3, W3, hT3, ⟨p2, L2, g1, g2, g3, g4⟩ | ⟨a, g1, g2, g3⟩⟩ := PPm_ct hq19
           · rw [show pOne (bM σ0 F) n k' (lxE (bM σ0 F) n p) = _ from g1]
             exact ⟨bal_up (bal_neg g2) (by omega), MSt_open g3⟩
           · rw [show pOne (bM σ0 F) n k' (lxE (bM σ0 F) n p) = _ from g1]; exact MBad_open g2)
    have hS2 := (hq47.2 (by omega)).2
    obtain ⟨k', rfl⟩ : ∃ k', k = k' + 1 := ⟨k - 1, by omega⟩
    refine x_aload_n 54 C dX12_atom_53 rfl rfl rfl ?_
    refine x_callVi 57 C dX12_atom_54 rfl (hE k' rfl σ0 s47 F n _ (u + 1) hS2 (by omega)) rfl (lt79 (by decide)) rfl tb_5_162 tb_5_164 tb_0_47 tb_1_20 tb_5_165 (na := 0) (by decide +kernel) rfl ⟨by omega, by omega⟩ rfl (Nat.le_of_ble_eq_true rfl) rfl (fun z54 s54 hz54 hq54 hR54 => ?_)
    obtain ⟨T2, W2, hT2, hc2⟩ := PPm_ct hq54
    refine x_istore_n1 58 C dX12_atom_57 rfl rfl ?_
    refine x_aload_n 59 C dX12_atom_58 rfl rfl rfl ?_
    refine x_bipush 61 C dX12_atom_59 rfl rfl ?_
    have J71 : ∀ (s7 : Sig), P71 σ0 F n (u + 1) (5 * k' + 6) (pOr (bM σ0 F) n k' (lxE (bM σ0 F) n p)) z54 s7 → Ex K G (NN tc) ρ (shp tc cl) 71 [some (.ref (ρ 51)), some (.int (iZ z54))] [] s7 := by
      intro s7 hinv
      have hP := hinv
      obtain ⟨hu7, hb7⟩ := P71_u hP
      have hb8 : up s7 51 31 (s7 51 31 - 1) 51 32 = s7 51 32 := up_i (by omega)
      refine x_aload_n 72 C dX12_atom_71 rfl rfl rfl ?_
      refine x_dup 73 C dX12_atom_72 rfl rfl ?_
      refine x_geti (j := 31) 76 C rfl (lt79 (by decide)) rfl rfl (by decide) inT12 tb_4_165 rfl dX12_atom_73 rfl (fun r73 => ?_)
      refine x_iconst 77 C dX12_atom_76 rfl ?_
      refine x_isub 78 C dX12_atom_77 rfl ?_
      refine x_puti (j := 31) tyX12 81 C rfl (lt79 (by decide)) rfl rfl (by decide) inT12 tyX12_ok nmX12 tb_4_165 rfl rfl rfl dX12_atom_78 rfl (by omega) ?_
      refine x_aload_n 82 C dX12_atom_81 rfl rfl rfl ?_
      refine x_geti (j := 32) 85 C rfl (lt79 (by decide)) rfl rfl (by decide) inT12 tb_4_166 rfl dX12_atom_82 rfl (fun r82 => ?_)
      refine x_if_ne 161 88 C dX12_atom_85 rfl rfl (by omega) (fun h85 => ?_) (fun h85 => ?_)
      · obtain ⟨a, g1, g2⟩ := P71_bad hP (by omega)
        have hfin : PPm σ0 F n u (5 * (k' + 1) + 1) (pOne (bM σ0 F) n (k' + 1) p) z54 (up s7 51 31 (s7 51 31 - 1)) := by
          rw [show s7 51 31 - 1 = u by omega, pOne_par (by omega)]
          rcases g1 with g1 | ⟨p1, L1, g1, g3, g4⟩
          · rw [g1]; exact MBad_open g2
          · rw [g1]; dsimp only; rw [if_neg g3, ← g4]; exact MBad_open g2
        refine x_iload_n 162 C dX12_atom_161 rfl rfl rfl ?_
        refine x_iret C T dX12_atom_162 ?_
        refine PI_i (by first | omega | exact wrap_in _) ?_
        first
          | exact hfin
          | (rw [pOne_num h2t, hv]; exact ⟨bal_up (bal_num ⟨by omega, by omega⟩) (by omega), hS4⟩)
          | (rw [pOne_name h3t, hzn, hvj, Int.toNat_natCast]; exact ⟨bal_up (bal_name hj (hnr j)) (by omega), hS4⟩)
          | (rw [pOne_bad hno.1 hno.2.1 (Or.inr ⟨hno.2.2.1, hno.2.2.2⟩)]; exact MSt_fail hS hq158)
          | (rw [pOne_par (by omega), g1]; dsimp only; rw [if_pos g4]; exact ⟨bal_up g2 (by omega), hS4⟩)
          | (rw [pOne_neg (by omega), show s19 51 31 - 1 = u by omega]
             obtain ⟨T3, W3, hT3, ⟨p2, L2, g1, g2, g3, g4⟩ | ⟨a, g1, g2, g3⟩⟩ := PPm_ct hq19
             · rw [show pOne (bM σ0 F) n k' (lxE (bM σ0 F) n p) = _ from g1]
               exact ⟨bal_up (bal_neg g2) (by omega), MSt_open g3⟩
             · rw [show pOne (bM σ0 F) n k' (lxE (bM σ0 F) n p) = _ from g1]; exact MBad_open g2)
      obtain ⟨p1, L1, g1, g2, g3, g4⟩ := P71_good hP (by omega)
      have hS3 : MSt σ0 F n p1 u (up s7 51 31 (s7 51 31 - 1)) := by rw [show s7 51 31 - 1 = u by omega]; exact MSt_open g3
      refine x_aload_n 89 C dX12_atom_88 rfl rfl rfl ?_
      refine x_callVv 92 C dX12_atom_89 rfl (c_X12_nextToken (q := lxE (bM σ0 F) n p1) (MSt_HG hS3) (MSt_here hS3 (kM_ne4 (by omega))) (MSt_ele hS3)) rfl (lt79 (by decide)) rfl tb_5_133 tb_5_135 tb_0_41 tb_1_20 tb_5_136 (na := 0) (by decide +kernel) rfl ⟨by omega, by omega⟩ rfl (Nat.le_of_ble_eq_true rfl) rfl (fun s89 hq89 hR89 => ?_)
      have hS4 := MSt_next hS3 hq89.1 hq89.2
      refine x_goto 161 C dX12_atom_92 rfl ?_
      refine x_iload_n 162 C dX12_atom_161 rfl rfl rfl ?_
      refine x_iret C T dX12_atom_162 ?_
      refine PI_i (by first | omega | exact wrap_in _) ?_
      first
        | exact hfin
        | (rw [pOne_num h2t, hv]; exact ⟨bal_up (bal_num ⟨by omega, by omega⟩) (by omega), hS4⟩)
        | (rw [pOne_name h3t, hzn, hvj, Int.toNat_natCast]; exact ⟨bal_up (bal_name hj (hnr j)) (by omega), hS4⟩)
        | (rw [pOne_bad hno.1 hno.2.1 (Or.inr ⟨hno.2.2.1, hno.2.2.2⟩)]; exact MSt_fail hS hq158)
        | (rw [pOne_par (by omega), g1]; dsimp only; rw [if_pos g4]; exact ⟨bal_up g2 (by omega), hS4⟩)
        | (rw [pOne_neg (by omega), show s19 51 31 - 1 = u by omega]
           obtain ⟨T3, W3, hT3, ⟨p2, L2, g1, g2, g3, g4⟩ | ⟨a, g1, g2, g3⟩⟩ := PPm_ct hq19
           · rw [show pOne (bM σ0 F) n k' (lxE (bM σ0 F) n p) = _ from g1]
             exact ⟨bal_up (bal_neg g2) (by omega), MSt_open g3⟩
           · rw [show pOne (bM σ0 F) n k' (lxE (bM σ0 F) n p) = _ from g1]; exact MBad_open g2)
    refine x_callVe 64 C dX12_atom_61 rfl (c_X12_isSign hT2 (by omega)) rfl (lt79 (by decide)) rfl tb_5_190 tb_5_192 tb_0_54 tb_1_20 tb_5_193 (na := 1) (by decide +kernel) rfl ⟨by omega, by omega⟩ rfl (Nat.le_of_ble_eq_true rfl) rfl (fun r61 => ?_)
    first
      | refine x_ifb_ne 71 67 C dX12_atom_64 rfl rfl (fun h64 => ?_) (fun h64 => ?_)
      | refine x_if_ne 71 67 C dX12_atom_64 rfl rfl (by omega) (fun h64 => ?_) (fun h64 => ?_)
    · have hP71 : P71 σ0 F n (u + 1) (5 * k' + 6) (pOr (bM σ0 F) n k' (lxE (bM σ0 F) n p)) z54 s54 := by
        rcases hc2 with ⟨p1, L1, g1, g2, g3, g4⟩ | ⟨a, g1, g2, g3⟩
        · exact Or.inl ⟨p1, L1, g1, g2, g3, by omega⟩
        · omega
      exact J71 _ hP71
    refine x_aload_n 68 C dX12_atom_67 rfl rfl rfl ?_
    refine x_callVv 71 C dX12_atom_68 rfl (c_X12_fail) rfl (lt79 (by decide)) rfl tb_5_158 tb_5_160 tb_0_46 tb_1_20 tb_5_161 (na := 0) (by decide +kernel) rfl ⟨by omega, by omega⟩ rfl (Nat.le_of_ble_eq_true rfl) rfl (fun s68 hq68 hR68 => ?_)
    have hP71 : P71 σ0 F n (u + 1) (5 * k' + 6) (pOr (bM σ0 F) n k' (lxE (bM σ0 F) n p)) z54 s68 := by
      rcases hc2 with ⟨p1, L1, g1, g2, g3, g4⟩ | ⟨a, g1, g2, g3⟩
      · exact Or.inr ⟨_, Or.inr ⟨p1, L1, g1, by omega, rfl⟩, MSt_fail g3 hq68⟩
      · exact Or.inr ⟨a, Or.inl g1, MBad_fail g2 hq68⟩
    exact J71 _ hP71
  refine x_aload_n 12 C dX12_atom_11 rfl rfl rfl ?_
  refine x_callVi 15 C dX12_atom_12 rfl (c_X12_opens hS (by omega) (by omega)) rfl (lt79 (by decide)) rfl tb_5_174 tb_5_176 tb_0_50 tb_1_20 tb_5_177 (na := 0) (by decide +kernel) rfl ⟨by omega, by omega⟩ rfl (Nat.le_of_ble_eq_true rfl) rfl (fun z12 s12 hz12 hq12 hR12 => ?_)
  have hz12 : (u = 5 ∧ z12 = 0) ∨ (u ≠ 5 ∧ z12 = 1) := by
    by_cases h : u = 5
    · exact Or.inl ⟨h, (hq12.1 h).1⟩
    · exact Or.inr ⟨h, (hq12.2 h).1⟩
  first
    | refine x_ifb_eq 161 18 C dX12_atom_15 rfl rfl (fun h15 => ?_) (fun h15 => ?_)
    | refine x_if_eq 161 18 C dX12_atom_15 rfl rfl (by omega) (fun h15 => ?_) (fun h15 => ?_)
  · have hfin : PPm σ0 F n u (5 * k + 1) (pOne (bM σ0 F) n k p) 0 s12 := by
      obtain rfl : k = 0 := by omega
      rw [pOne_bad (by omega) (by omega) (Or.inl rfl)]; exact (hq12.1 (by omega)).2
    refine x_iload_n 162 C dX12_atom_161 rfl rfl rfl ?_
    refine x_iret C T dX12_atom_162 ?_
    refine PI_i (by first | omega | exact wrap_in _) ?_
    first
      | exact hfin
      | (rw [pOne_num h2t, hv]; exact ⟨bal_up (bal_num ⟨by omega, by omega⟩) (by omega), hS4⟩)
      | (rw [pOne_name h3t, hzn, hvj, Int.toNat_natCast]; exact ⟨bal_up (bal_name hj (hnr j)) (by omega), hS4⟩)
      | (rw [pOne_bad hno.1 hno.2.1 (Or.inr ⟨hno.2.2.1, hno.2.2.2⟩)]; exact MSt_fail hS hq158)
      | (rw [pOne_par (by omega), g1]; dsimp only; rw [if_pos g4]; exact ⟨bal_up g2 (by omega), hS4⟩)
      | (rw [pOne_neg (by omega), show s19 51 31 - 1 = u by omega]
         obtain ⟨T3, W3, hT3, ⟨p2, L2, g1, g2, g3, g4⟩ | ⟨a, g1, g2, g3⟩⟩ := PPm_ct hq19
         · rw [show pOne (bM σ0 F) n k' (lxE (bM σ0 F) n p) = _ from g1]
           exact ⟨bal_up (bal_neg g2) (by omega), MSt_open g3⟩
         · rw [show pOne (bM σ0 F) n k' (lxE (bM σ0 F) n p) = _ from g1]; exact MBad_open g2)
  have hS2 := (hq12.2 (by omega)).2
  obtain ⟨k', rfl⟩ : ∃ k', k = k' + 1 := ⟨k - 1, by omega⟩
  refine x_aload_n 19 C dX12_atom_18 rfl rfl rfl ?_
  refine x_callVi 22 C dX12_atom_19 rfl (hO k' rfl σ0 s12 F n _ (u + 1) hS2 (by omega)) rfl (lt79 (by decide)) rfl tb_5_186 tb_5_188 tb_0_53 tb_1_20 tb_5_189 (na := 0) (by decide +kernel) rfl ⟨by omega, by omega⟩ rfl (Nat.le_of_ble_eq_true rfl) rfl (fun z19 s19 hz19 hq19 hR19 => ?_)
  have hu := PPm_u hq19
  refine x_ineg 23 C dX12_atom_22 rfl ?_
  refine x_wrap 23 C rfl ?_
  refine x_istore_n1 24 C dX12_atom_23 rfl rfl ?_
  refine x_aload_n 25 C dX12_atom_24 rfl rfl rfl ?_
  refine x_dup 26 C dX12_atom_25 rfl rfl ?_
  refine x_geti (j := 31) 29 C rfl (lt79 (by decide)) rfl rfl (by decide) inT12 tb_4_165 rfl dX12_atom_26 rfl (fun r26 => ?_)
  refine x_iconst 30 C dX12_atom_29 rfl ?_
  refine x_isub 31 C dX12_atom_30 rfl ?_
  refine x_puti (j := 31) tyX12 34 C rfl (lt79 (by decide)) rfl rfl (by decide) inT12 tyX12_ok nmX12 tb_4_165 rfl rfl rfl dX12_atom_31 rfl (by omega) ?_
  refine x_goto 161 C dX12_atom_34 rfl ?_
  refine x_iload_n 162 C dX12_atom_161 rfl rfl rfl ?_
  refine x_iret C T dX12_atom_162 ?_
  refine PI_i (by first | omega | exact wrap_in _) ?_
  first
    | exact hfin
    | (rw [pOne_num h2t, hv]; exact ⟨bal_up (bal_num ⟨by omega, by omega⟩) (by omega), hS4⟩)
    | (rw [pOne_name h3t, hzn, hvj, Int.toNat_natCast]; exact ⟨bal_up (bal_name hj (hnr j)) (by omega), hS4⟩)
    | (rw [pOne_bad hno.1 hno.2.1 (Or.inr ⟨hno.2.2.1, hno.2.2.2⟩)]; exact MSt_fail hS hq158)
    | (rw [pOne_par (by omega), g1]; dsimp only; rw [if_pos g4]; exact ⟨bal_up g2 (by omega), hS4⟩)
    | (rw [pOne_neg (by omega), show s19 51 31 - 1 = u by omega]
       obtain ⟨T3, W3, hT3, ⟨p2, L2, g1, g2, g3, g4⟩ | ⟨a, g1, g2, g3⟩⟩ := PPm_ct hq19
       · rw [show pOne (bM σ0 F) n k' (lxE (bM σ0 F) n p) = _ from g1]
         exact ⟨bal_up (bal_neg g2) (by omega), MSt_open g3⟩
       · rw [show pOne (bM σ0 F) n k' (lxE (bM σ0 F) n p) = _ from g1]; exact MBad_open g2)

theorem c_parseM {l : Launch} {G : Gt} {ρ : Nat → Nat} {tc : Nat} {cl : Nat → Nat} : ∀ k : Nat, PCm l G ρ tc cl yX12_atom cX12_atom 2 (8 + 7 * k) (200 + 168 * k) k (5 * k + 1) (fun b n => pOne b n k) ∧ PCm l G ρ tc cl yX12_not cX12_not 4 (12 + 7 * k) (296 + 168 * k) k (5 * k + 4) (fun b n => pNot b n k) ∧ PCm l G ρ tc cl yX12_either cX12_either 3 (14 + 7 * k) (344 + 168 * k) k (5 * k + 6) (fun b n => pOr b n k) := by
  have step : ∀ k : Nat, (∀ k', k' + 1 = k → PCm l G ρ tc cl yX12_atom cX12_atom 2 (8 + 7 * k') (200 + 168 * k') (k') (5 * k' + 1) (fun b n => pOne b n k')) → (∀ k', k' + 1 = k → PCm l G ρ tc cl yX12_not cX12_not 4 (12 + 7 * k') (296 + 168 * k') (k') (5 * k' + 4) (fun b n => pNot b n k')) → (∀ k', k' + 1 = k → PCm l G ρ tc cl yX12_either cX12_either 3 (14 + 7 * k') (344 + 168 * k') (k') (5 * k' + 6) (fun b n => pOr b n k')) → PCm l G ρ tc cl yX12_atom cX12_atom 2 (8 + 7 * k) (200 + 168 * k) k (5 * k + 1) (fun b n => pOne b n k) ∧ PCm l G ρ tc cl yX12_not cX12_not 4 (12 + 7 * k) (296 + 168 * k) k (5 * k + 4) (fun b n => pNot b n k) ∧ PCm l G ρ tc cl yX12_either cX12_either 3 (14 + 7 * k) (344 + 168 * k) k (5 * k + 6) (fun b n => pOr b n k) := by
    intro k h1 h2 h3
    have a1 : PCm l G ρ tc cl yX12_atom cX12_atom 2 (8 + 7 * k) (200 + 168 * k) k (5 * k + 1) (fun b n => pOne b n k) := fun σ0 σ F n p u hS hk => c_X12_atom hS hk h1 h3
    have a2 : PCm l G ρ tc cl yX12_term cX12_term 2 (9 + 7 * k) (224 + 168 * k) k (5 * k + 2) (fun b n => pTerm b n k) := fun σ0 σ F n p u hS hk => c_X12_term hS hk a1
    have a3 : PCm l G ρ tc cl yX12_added cX12_added 4 (10 + 7 * k) (248 + 168 * k) k (5 * k + 3) (fun b n => pSum b n k) := fun σ0 σ F n p u hS hk => c_X12_added hS hk a2
    have a5 : PCm l G ρ tc cl yX12_not cX12_not 4 (12 + 7 * k) (296 + 168 * k) k (5 * k + 4) (fun b n => pNot b n k) := fun σ0 σ F n p u hS hk => c_X12_not hS hk a3 h2
    have a6 : PCm l G ρ tc cl yX12_both cX12_both 3 (13 + 7 * k) (320 + 168 * k) k (5 * k + 5) (fun b n => pAnd b n k) := fun σ0 σ F n p u hS hk => c_X12_both hS hk a5
    exact ⟨a1, a5, fun σ0 σ F n p u hS hk => c_X12_either hS hk a6⟩
  intro k
  induction k with
  | zero => exact step 0 (fun k' h => absurd h (by omega)) (fun k' h => absurd h (by omega)) (fun k' h => absurd h (by omega))
  | succ k ih => exact step (k + 1) (fun k' h => by cases h; exact ih.1) (fun k' h => by cases h; exact ih.2.1) (fun k' h => by cases h; exact ih.2.2)
/-- behind the E of a part, ahead of its ; -/
def P34 (σ0 : Sig) (F n : Nat) (R : Pr) (z : Int) (s : Sig) : Prop := ∃ T W, CT σ0 F n 0 s T W ∧ ((∃ p1 L1, Bal (nmM σ0) 31 L1 z ∧ MSt σ0 F n p1 0 s ∧ T = lxT (bM σ0 F) n p1 ∧ R = (if lxT (bM σ0 F) n p1 = 59 then .inl (lxE (bM σ0 F) n p1, L1) else .inr (lxA (bM σ0 F) n p1))) ∨ (∃ a, MBad σ0 a 0 s ∧ T = -1 ∧ R = .inr a))
def P48 (σ0 : Sig) (F n : Nat) (R : Pr) (z : Int) (s : Sig) : Prop := (∃ p1 L1, Bal (nmM σ0) 31 L1 z ∧ MSt σ0 F n p1 0 s ∧ lxT (bM σ0 F) n p1 = 59 ∧ R = .inl (lxE (bM σ0 F) n p1, L1)) ∨ (∃ a, R = .inr a ∧ MBad σ0 a 0 s)
set_option maxHeartbeats 4000000 in
set_option maxRecDepth 100000 in
theorem c_X12_part {l : Launch} {G : Gt} {ρ : Nat → Nat} {tc : Nat} {cl : Nat → Nat} {σ : Sig} {σ0 : Sig} {F n p : Nat} {key c : Int} (hS : MSt σ0 F n p 0 σ) (hc : (c = 1 ∧ lxT (bM σ0 F) n p = key) ∨ (c = 0 ∧ lxT (bM σ0 F) n p ≠ key)) (hkey : 4 ≤ key ∧ key ≤ 6) : MX l yX12_part cX12_part 3 (some .int) 50 1206 G (NN tc) ρ (shp tc cl) [.ref (ρ 51), .int (iZ c)] σ (PI (fun z σ' => PPm σ0 F n 0 31 (pPart (bM σ0 F) n key p) z σ')) := by
  refine MX_of [some (.ref (ρ 51)), some (.int (iZ c)), none] (by decide +kernel) rfl rfl (Nat.le_of_ble_eq_true rfl) ?_
  intro K hKl C T hRng
  subst hKl
  have hbad := MSt_bad hS
  have J34 : ∀ (w : Int) (s34 : Sig), (P34 σ0 F n (pPart (bM σ0 F) n key p) w s34 ∧ (-2147483648 ≤ w ∧ w ≤ 2147483647)) → Ex K G (NN tc) ρ (shp tc cl) 34 [some (.ref (ρ 51)), some (.int (iZ c)), none] [.int (iZ w)] s34 := by
    intro w s34 hinv
    obtain ⟨⟨T2, W2, hT2, hc2⟩, hwr⟩ := hinv
    refine x_istore_n2 35 C dX12_part_34 rfl rfl ?_
    refine x_aload_n 36 C dX12_part_35 rfl rfl rfl ?_
    refine x_bipush 38 C dX12_part_36 rfl rfl ?_
    have J48 : ∀ (s48 : Sig), P48 σ0 F n (pPart (bM σ0 F) n key p) w s48 → Ex K G (NN tc) ρ (shp tc cl) 48 [some (.ref (ρ 51)), some (.int (iZ c)), some (.int (iZ w))] [] s48 := by
      intro s48 hinv
      have hP := hinv
      refine x_aload_n 49 C dX12_part_48 rfl rfl rfl ?_
      refine x_geti (j := 32) 52 C rfl (lt79 (by decide)) rfl rfl (by decide) inT12 tb_4_166 rfl dX12_part_49 rfl (fun r49 => ?_)
      refine x_if_ne 59 55 C dX12_part_52 rfl rfl (by omega) (fun h52 => ?_) (fun h52 => ?_)
      · have hfin : PPm σ0 F n 0 31 (pPart (bM σ0 F) n key p) w s48 := by
          rcases hP with ⟨p1, L1, g2, g3, g4, g5⟩ | ⟨a, g5, g2⟩
          · have := MSt_bad g3; omega
          · rw [g5]; exact g2
        refine x_iload_n 60 C dX12_part_59 rfl rfl rfl ?_
        refine x_iret C T dX12_part_60 ?_
        refine PI_i (by omega) ?_
        first
          | exact hfin
          | (rw [g5]; exact ⟨g2, hS4⟩)
      obtain ⟨p1, L1, g2, g3, g4, g5⟩ : ∃ p1 L1, Bal (nmM σ0) 31 L1 w ∧ MSt σ0 F n p1 0 s48 ∧ lxT (bM σ0 F) n p1 = 59 ∧ pPart (bM σ0 F) n key p = .inl (lxE (bM σ0 F) n p1, L1) := by
        rcases hP with h | ⟨a, g5, g2⟩
        · exact h
        · have := g2.2.1; omega
      refine x_aload_n 56 C dX12_part_55 rfl rfl rfl ?_
      refine x_callVv 59 C dX12_part_56 rfl (c_X12_nextToken (q := lxE (bM σ0 F) n p1) (MSt_HG g3) (MSt_here g3 (kM_ne4 (by omega))) (MSt_ele g3)) rfl (lt79 (by decide)) rfl tb_5_133 tb_5_135 tb_0_41 tb_1_20 tb_5_136 (na := 0) (by decide +kernel) rfl ⟨by decide, by decide⟩ rfl (Nat.le_of_ble_eq_true rfl) rfl (fun s56 hq56 hR56 => ?_)
      have hS4 := MSt_next g3 hq56.1 hq56.2
      refine x_iload_n 60 C dX12_part_59 rfl rfl rfl ?_
      refine x_iret C T dX12_part_60 ?_
      refine PI_i (by omega) ?_
      first
        | exact hfin
        | (rw [g5]; exact ⟨g2, hS4⟩)
    refine x_callVe 41 C dX12_part_38 rfl (c_X12_isSign hT2 (by omega)) rfl (lt79 (by decide)) rfl tb_5_190 tb_5_192 tb_0_54 tb_1_20 tb_5_193 (na := 1) (by decide +kernel) rfl ⟨by decide, by decide⟩ rfl (Nat.le_of_ble_eq_true rfl) rfl (fun r38 => ?_)
    first
      | refine x_ifb_ne 48 44 C dX12_part_41 rfl rfl (fun h41 => ?_) (fun h41 => ?_)
      | refine x_if_ne 48 44 C dX12_part_41 rfl rfl (by omega) (fun h41 => ?_) (fun h41 => ?_)
    · have hP48 : P48 σ0 F n (pPart (bM σ0 F) n key p) w s34 := by
        rcases hc2 with ⟨p1, L1, g2, g3, g4, g5⟩ | ⟨a, g2, g3, g5⟩
        · refine Or.inl ⟨p1, L1, g2, g3, by omega, ?_⟩
          rw [g5, if_pos (by omega)]
        · omega
      exact J48 _ hP48
    refine x_aload_n 45 C dX12_part_44 rfl rfl rfl ?_
    refine x_callVv 48 C dX12_part_45 rfl (c_X12_fail) rfl (lt79 (by decide)) rfl tb_5_158 tb_5_160 tb_0_46 tb_1_20 tb_5_161 (na := 0) (by decide +kernel) rfl ⟨by decide, by decide⟩ rfl (Nat.le_of_ble_eq_true rfl) rfl (fun s45 hq45 hR45 => ?_)
    have hP48 : P48 σ0 F n (pPart (bM σ0 F) n key p) w s45 := by
      rcases hc2 with ⟨p1, L1, g2, g3, g4, g5⟩ | ⟨a, g2, g3, g5⟩
      · refine Or.inr ⟨_, ?_, MSt_fail g3 hq45⟩
        rw [g5, if_neg (by omega)]
      · exact Or.inr ⟨a, g5, MBad_fail g2 hq45⟩
    exact J48 _ hP48
  have J8 : ∀ (s8 : Sig), ((MSt σ0 F n p 0 s8 ∧ lxT (bM σ0 F) n p = key) ∨ (MBad σ0 (lxA (bM σ0 F) n p) 0 s8 ∧ lxT (bM σ0 F) n p ≠ key)) → Ex K G (NN tc) ρ (shp tc cl) 8 [some (.ref (ρ 51)), some (.int (iZ c)), none] [] s8 := by
    intro s8 hinv
    have h8 := hinv
    clear hinv
    have J19 : ∀ (s9 : Sig), ((MSt σ0 F n (lxE (bM σ0 F) n p) 0 s9 ∧ lxT (bM σ0 F) n p = key) ∨ (MBad σ0 (lxA (bM σ0 F) n p) 0 s9 ∧ lxT (bM σ0 F) n p ≠ key)) → Ex K G (NN tc) ρ (shp tc cl) 19 [some (.ref (ρ 51)), some (.int (iZ c)), none] [] s9 := by
      intro s9 hinv
      have h9 := hinv
      clear hinv
      refine x_aload_n 20 C dX12_part_19 rfl rfl rfl ?_
      refine x_geti (j := 32) 23 C rfl (lt79 (by decide)) rfl rfl (by decide) inT12 tb_4_166 rfl dX12_part_20 rfl (fun r20 => ?_)
      refine x_if_eq 30 26 C dX12_part_23 rfl rfl (by omega) (fun h23 => ?_) (fun h23 => ?_)
      · obtain ⟨hS2, h9k⟩ : MSt σ0 F n (lxE (bM σ0 F) n p) 0 s9 ∧ lxT (bM σ0 F) n p = key := by
          rcases h9 with h | ⟨a, b⟩
          · exact h
          · have := a.2.1; omega
        refine x_aload_n 31 C dX12_part_30 rfl rfl rfl ?_
        refine x_callVi 34 C dX12_part_31 rfl (((c_parseM 5).2.2 σ0 s9 F n _ 0 hS2 (by omega))) rfl (lt79 (by decide)) rfl tb_5_162 tb_5_164 tb_0_47 tb_1_20 tb_5_165 (na := 0) (by decide +kernel) rfl ⟨by decide, by decide⟩ rfl (Nat.le_of_ble_eq_true rfl) rfl (fun z31 s31 hz31 hq31 hR31 => ?_)
        have hP34 : P34 σ0 F n (pPart (bM σ0 F) n key p) z31 s31 := by
          obtain ⟨T2, W2, hT2, ⟨p1, L1, g1, g2, g3, g4⟩ | ⟨a, g1, g2, g3⟩⟩ := PPm_ct hq31
          · refine ⟨T2, W2, hT2, Or.inl ⟨p1, L1, g2, g3, g4, ?_⟩⟩
            unfold pPart
            rw [if_pos h9k, show pOr (bM σ0 F) n 5 (lxE (bM σ0 F) n p) = _ from g1]
          · refine ⟨T2, W2, hT2, Or.inr ⟨a, g2, g3, ?_⟩⟩
            unfold pPart
            rw [if_pos h9k, show pOr (bM σ0 F) n 5 (lxE (bM σ0 F) n p) = _ from g1]
        exact J34 _ _ ⟨hP34, by omega⟩
      obtain ⟨hB8, hk8⟩ : MBad σ0 (lxA (bM σ0 F) n p) 0 s9 ∧ lxT (bM σ0 F) n p ≠ key := by
        rcases h9 with ⟨a, b⟩ | h
        · exact absurd (MSt_bad a) h23
        · exact h
      have hP34 : P34 σ0 F n (pPart (bM σ0 F) n key p) 0 s9 := by
        refine ⟨_, _, CT_bad hB8, Or.inr ⟨_, hB8, rfl, ?_⟩⟩
        unfold pPart
        rw [if_neg hk8]
      refine x_iconst 27 C dX12_part_26 rfl ?_
      refine x_goto 34 C dX12_part_27 rfl ?_
      exact J34 _ _ ⟨hP34, by omega⟩
    refine x_aload_n 9 C dX12_part_8 rfl rfl rfl ?_
    refine x_geti (j := 32) 12 C rfl (lt79 (by decide)) rfl rfl (by decide) inT12 tb_4_166 rfl dX12_part_9 rfl (fun r9 => ?_)
    refine x_if_ne 19 15 C dX12_part_12 rfl rfl (by omega) (fun h12 => ?_) (fun h12 => ?_)
    · have h19 : ((MSt σ0 F n (lxE (bM σ0 F) n p) 0 s8 ∧ lxT (bM σ0 F) n p = key) ∨ (MBad σ0 (lxA (bM σ0 F) n p) 0 s8 ∧ lxT (bM σ0 F) n p ≠ key)) := by
        rcases h8 with ⟨a, b⟩ | h
        · exact absurd (MSt_bad a) h12
        · exact Or.inr h
      exact J19 _ h19
    obtain ⟨h8m, h8k⟩ : MSt σ0 F n p 0 s8 ∧ lxT (bM σ0 F) n p = key := by
      rcases h8 with h | ⟨a, b⟩
      · exact h
      · have := a.2.1; omega
    refine x_aload_n 16 C dX12_part_15 rfl rfl rfl ?_
    refine x_callVv 19 C dX12_part_16 rfl (c_X12_nextToken (q := lxE (bM σ0 F) n p) (MSt_HG h8m) (MSt_here h8m (kM_ne4 (by omega))) (MSt_ele h8m)) rfl (lt79 (by decide)) rfl tb_5_133 tb_5_135 tb_0_41 tb_1_20 tb_5_136 (na := 0) (by decide +kernel) rfl ⟨by decide, by decide⟩ rfl (Nat.le_of_ble_eq_true rfl) rfl (fun s16 hq16 hR16 => ?_)
    have h19 : ((MSt σ0 F n (lxE (bM σ0 F) n p) 0 s16 ∧ lxT (bM σ0 F) n p = key) ∨ (MBad σ0 (lxA (bM σ0 F) n p) 0 s16 ∧ lxT (bM σ0 F) n p ≠ key)) := Or.inl ⟨MSt_next h8m hq16.1 hq16.2, h8k⟩
    exact J19 _ h19
  refine x_iload_n 1 C dX12_part_0 rfl rfl rfl ?_
  refine x_if_ne 8 4 C dX12_part_1 rfl rfl (by omega) (fun h1 => ?_) (fun h1 => ?_)
  · exact J8 _ (by first | exact Or.inr ⟨MSt_fail hS hq5, by omega⟩ | exact Or.inl ⟨hS, by omega⟩)
  refine x_aload_n 5 C dX12_part_4 rfl rfl rfl ?_
  refine x_callVv 8 C dX12_part_5 rfl (c_X12_fail) rfl (lt79 (by decide)) rfl tb_5_158 tb_5_160 tb_0_46 tb_1_20 tb_5_161 (na := 0) (by decide +kernel) rfl ⟨by decide, by decide⟩ rfl (Nat.le_of_ble_eq_true rfl) rfl (fun s5 hq5 hR5 => ?_)
  exact J8 _ (by first | exact Or.inr ⟨MSt_fail hS hq5, by omega⟩ | exact Or.inl ⟨hS, by omega⟩)
