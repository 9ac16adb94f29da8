set_option maxHeartbeats 4000000 in
set_option maxRecDepth 100000 in
theorem c_X3_sees {l : Launch} {G : Gt} {ρ : Nat → Nat} {tc : Nat} {cl : Nat → Nat} {σ : Sig} {X : Nat → RuT} {s t f : Nat} (hW : CW X tc cl σ) (hs : (s : Int) < σ 1 8) (ht : (t : Int) < σ 1 3) (hf : 1 ≤ f ∧ f ≤ 5) (hp : σ 34 t = whereF (σ 6 t) (σ 3 t) (σ 5 t) (σ 9 s)) : MX l yX3_sees cX3_sees 5 (some .boolean) 3 80 G (NN tc) ρ (shp tc cl) [.ref (ρ 32), .int (iZ (s : Int)), .int (iZ (t : Int)), .int (iZ (f : Int))] σ (PI (fun z σ' => Kp 33 33 σ σ' ∧ (showsF (σ 6 t) (σ 5 t) (σ 1 1) f = false → z = 0) ∧ (showsF (σ 6 t) (σ 5 t) (σ 1 1) f = true → nmC σ' = (nmF (f : Int) (σ 9 s) (σ 1 1) (σ 2 (whereF (σ 6 t) (σ 3 t) (σ 5 t) (σ 9 s)).toNat) (s : Int) (t : Int)) ∧ ((z = 1 ∧ evL (nmF (f : Int) (σ 9 s) (σ 1 1) (σ 2 (whereF (σ 6 t) (σ 3 t) (σ 5 t) (σ 9 s)).toNat) (s : Int) (t : Int)) (prt 0 (X (σ 1 2).toNat)) ≠ 0) ∨ (z = 0 ∧ evL (nmF (f : Int) (σ 9 s) (σ 1 1) (σ 2 (whereF (σ 6 t) (σ 3 t) (σ 5 t) (σ 9 s)).toNat) (s : Int) (t : Int)) (prt 0 (X (σ 1 2).toNat)) = 0))))) := by
  refine MX_of [some (.ref (ρ 32)), some (.int (iZ (s : Int))), some (.int (iZ (t : Int))), some (.int (iZ (f : Int))), none] (by decide +kernel) rfl rfl (Nat.le_of_ble_eq_true rfl) ?_
  intro K hKl C T hRng
  subst hKl
  have hT := hW.1
  have h3 := hT.2.2.1
  have h8 := hT.2.2.2.1
  have hg := hT.1
  have hqt := hT.2.2.2.2 t
  have hqs := hT.2.2.2.2 s
  have hss : (s : Int).toNat = s := Int.toNat_natCast s
  have htt : (t : Int).toNat = t := Int.toNat_natCast t
  have hwi := whereF_in (k := σ 6 t) (h := σ 3 t) (n := σ 5 t) (m := σ 9 s) (by omega) (by omega) (by omega)
  have hhi := (hT.2.2.2.2 (whereF (σ 6 t) (σ 3 t) (σ 5 t) (σ 9 s)).toNat).1
  refine x_aload_n 1 C dX3_sees_0 rfl rfl rfl ?_
  refine x_getr (j := 1) 4 C rfl (lt79 (by decide)) rfl rfl (by decide) inT3 tb_2_108 rfl dX3_sees_1 rfl ?_
  refine x_aload_n 5 C dX3_sees_4 rfl rfl rfl ?_
  refine x_getr (j := 0) 8 C rfl (lt79 (by decide)) rfl rfl (by decide) inT3 tb_2_107 rfl dX3_sees_5 rfl ?_
  refine x_getr (j := 7) 11 C rfl (lt79 (by decide)) rfl rfl (by decide) inT9 tb_1_58 rfl dX3_sees_8 rfl ?_
  refine x_iload_n 12 C dX3_sees_11 rfl rfl rfl ?_
  refine x_iald 13 C rfl (lt79 (by decide)) dX3_sees_12 rfl (by omega) (by omega) (fun r12 => ?_)
  rw [htt] at r12 ⊢
  refine x_aald0 14 C rfl (lt79 (by decide)) dX3_sees_13 rfl (by omega) (by omega) rfl ?_
  refine x_astore_4 16 C dX3_sees_14 rfl rfl ?_
  refine x_aload 18 C dX3_sees_16 rfl rfl ?_
  refine x_iload_n 19 C dX3_sees_18 rfl rfl rfl ?_
  refine x_aload_n 20 C dX3_sees_19 rfl rfl rfl ?_
  refine x_getr (j := 0) 23 C rfl (lt79 (by decide)) rfl rfl (by decide) inT3 tb_2_107 rfl dX3_sees_20 rfl ?_
  refine x_getr (j := 6) 26 C rfl (lt79 (by decide)) rfl rfl (by decide) inT9 tb_1_55 rfl dX3_sees_23 rfl ?_
  refine x_iload_n 27 C dX3_sees_26 rfl rfl rfl ?_
  refine x_iald 28 C rfl (lt79 (by decide)) dX3_sees_27 rfl (by omega) (by omega) (fun r27 => ?_)
  rw [htt] at r27 ⊢
  refine x_aload_n 29 C dX3_sees_28 rfl rfl rfl ?_
  refine x_getr (j := 0) 32 C rfl (lt79 (by decide)) rfl rfl (by decide) inT3 tb_2_107 rfl dX3_sees_29 rfl ?_
  refine x_geti (j := 1) 35 C rfl (lt79 (by decide)) rfl rfl (by decide) inT9 tb_1_40 rfl dX3_sees_32 rfl (fun r32 => ?_)
  refine x_shows 38 C dX3_sees_35 rfl tb_3_83 (kd := (σ 6 t).toNat) (by omega) (by omega) (by omega) (by omega) ⟨by decide, by decide⟩ (Nat.le_of_ble_eq_true rfl) rfl ?_
  rw [show (((σ 6 t).toNat : Nat) : Int) = σ 6 t by omega]
  first
    | refine x_ifb_ne 43 41 C dX3_sees_38 rfl rfl (fun h38 => ?_) (fun h38 => ?_)
    | refine x_if_ne 43 41 C dX3_sees_38 rfl rfl (by omega) (fun h38 => ?_) (fun h38 => ?_)
  rotate_left
  · refine x_iconst 42 C dX3_sees_41 rfl ?_
    refine x_zret C T dX3_sees_42 (by omega) ?_
    refine PI_i (by omega) ?_
    first
      | exact ⟨Kp_refl σ, fun _ => rfl, fun h => absurd h h38⟩
      | (refine ⟨Kp_trans hK2 (Kp_wide (lo := 33) (hi := 32) k1 (by omega) (by omega)), fun h => absurd (h.symm.trans h38) Bool.false_ne_true, fun _ => ⟨?_, ?_⟩⟩
         · rw [← hn2]; unfold nmC; rw [k1 33 (by omega) (by omega)]
         · first
             | (rw [k2] at h117; exact Or.inl ⟨rfl, h117⟩)
             | (rw [k2] at h117; exact Or.inr ⟨rfl, h117⟩))
  refine x_aload_n 44 C dX3_sees_43 rfl rfl rfl ?_
  refine x_getr (j := 3) 47 C rfl (lt79 (by decide)) rfl rfl (by decide) inT3 tb_2_110 rfl dX3_sees_44 rfl ?_
  refine x_iconst 48 C dX3_sees_47 rfl ?_
  refine x_iload_n 49 C dX3_sees_48 rfl rfl rfl ?_
  refine x_iast 50 C rfl (lt79 (by decide)) dX3_sees_49 rfl (by omega) (by omega) (by omega) ?_
  refine x_aload_n 51 C dX3_sees_50 rfl rfl rfl ?_
  refine x_getr (j := 3) 54 C rfl (lt79 (by decide)) rfl rfl (by decide) inT3 tb_2_110 rfl dX3_sees_51 rfl ?_
  refine x_iconst 55 C dX3_sees_54 rfl ?_
  refine x_aload_n 56 C dX3_sees_55 rfl rfl rfl ?_
  refine x_getr (j := 0) 59 C rfl (lt79 (by decide)) rfl rfl (by decide) inT3 tb_2_107 rfl dX3_sees_56 rfl ?_
  refine x_getr (j := 11) 62 C rfl (lt79 (by decide)) rfl rfl (by decide) inT9 tb_1_69 rfl dX3_sees_59 rfl ?_
  refine x_iload_n 63 C dX3_sees_62 rfl rfl rfl ?_
  refine x_iald 64 C rfl (lt79 (by decide)) dX3_sees_63 rfl (by omega) (by omega) (fun r63 => ?_)
  rw [hss, up_r (show (9 : Nat) ≠ 33 by decide)] at r63 ⊢
  refine x_iast 65 C rfl (lt79 (by decide)) dX3_sees_64 rfl (by omega) (by omega) (by omega) ?_
  refine x_aload_n 66 C dX3_sees_65 rfl rfl rfl ?_
  refine x_getr (j := 3) 69 C rfl (lt79 (by decide)) rfl rfl (by decide) inT3 tb_2_110 rfl dX3_sees_66 rfl ?_
  refine x_iconst 70 C dX3_sees_69 rfl ?_
  refine x_aload_n 71 C dX3_sees_70 rfl rfl rfl ?_
  refine x_getr (j := 0) 74 C rfl (lt79 (by decide)) rfl rfl (by decide) inT3 tb_2_107 rfl dX3_sees_71 rfl ?_
  refine x_geti (j := 1) 77 C rfl (lt79 (by decide)) rfl rfl (by decide) inT9 tb_1_40 rfl dX3_sees_74 rfl (fun r74 => ?_)
  simp only [up_r (show (1 : Nat) ≠ 33 by decide)] at r74 ⊢
  refine x_iast 78 C rfl (lt79 (by decide)) dX3_sees_77 rfl (by omega) (by omega) (by omega) ?_
  refine x_aload_n 79 C dX3_sees_78 rfl rfl rfl ?_
  refine x_getr (j := 3) 82 C rfl (lt79 (by decide)) rfl rfl (by decide) inT3 tb_2_110 rfl dX3_sees_79 rfl ?_
  refine x_iconst 83 C dX3_sees_82 rfl ?_
  refine x_aload_n 84 C dX3_sees_83 rfl rfl rfl ?_
  refine x_getr (j := 0) 87 C rfl (lt79 (by decide)) rfl rfl (by decide) inT3 tb_2_107 rfl dX3_sees_84 rfl ?_
  refine x_getr (j := 0) 90 C rfl (lt79 (by decide)) rfl rfl (by decide) inT9 tb_1_37 rfl dX3_sees_87 rfl ?_
  refine x_aload_n 91 C dX3_sees_90 rfl rfl rfl ?_
  refine x_getr (j := 4) 94 C rfl (lt79 (by decide)) rfl rfl (by decide) inT3 tb_2_111 rfl dX3_sees_91 rfl ?_
  refine x_iload_n 95 C dX3_sees_94 rfl rfl rfl ?_
  refine x_iald 96 C rfl (lt79 (by decide)) dX3_sees_95 rfl (by omega) (by omega) (fun r95 => ?_)
  simp only [htt, up_r (show (34 : Nat) ≠ 33 by decide)] at r95 ⊢
  rw [hp] at r95 ⊢
  refine x_iald 97 C rfl (lt79 (by decide)) dX3_sees_96 rfl (by omega) (by omega) (fun r96 => ?_)
  simp only [up_r (show (2 : Nat) ≠ 33 by decide)] at r96 ⊢
  refine x_iast 98 C rfl (lt79 (by decide)) dX3_sees_97 rfl (by omega) (by omega) (by omega) ?_
  refine x_aload_n 99 C dX3_sees_98 rfl rfl rfl ?_
  refine x_getr (j := 3) 102 C rfl (lt79 (by decide)) rfl rfl (by decide) inT3 tb_2_110 rfl dX3_sees_99 rfl ?_
  refine x_iconst 103 C dX3_sees_102 rfl ?_
  refine x_iload_n 104 C dX3_sees_103 rfl rfl rfl ?_
  refine x_iast 105 C rfl (lt79 (by decide)) dX3_sees_104 rfl (by omega) (by omega) (by omega) ?_
  refine x_aload_n 106 C dX3_sees_105 rfl rfl rfl ?_
  refine x_getr (j := 3) 109 C rfl (lt79 (by decide)) rfl rfl (by decide) inT3 tb_2_110 rfl dX3_sees_106 rfl ?_
  refine x_iconst 110 C dX3_sees_109 rfl ?_
  refine x_iload_n 111 C dX3_sees_110 rfl rfl rfl ?_
  refine x_iast 112 C rfl (lt79 (by decide)) dX3_sees_111 rfl (by omega) (by omega) (by omega) ?_
  obtain ⟨s2, hs2⟩ : ∃ s2, up (up (up (up (up (up σ 33 (0 : Int).toNat (f : Int)) 33 (1 : Int).toNat (σ 9 s)) 33 (2 : Int).toNat (σ 1 1)) 33 (3 : Int).toNat (σ 2 (whereF (σ 6 t) (σ 3 t) (σ 5 t) (σ 9 s)).toNat)) 33 (4 : Int).toNat (s : Int)) 33 (5 : Int).toNat (t : Int) = s2 := ⟨_, rfl⟩
  rw [hs2]
  have hK2 : Kp 33 33 σ s2 := by
    rw [← hs2]
    exact Kp_up (Kp_up (Kp_up (Kp_up (Kp_up (Kp_up (Kp_refl σ) (by omega)) (by omega)) (by omega)) (by omega)) (by omega)) (by omega)
  have hW2 : CW X tc cl s2 := CW_Kp hW hK2 (by omega)
  have hn2 : nmC s2 = (nmF (f : Int) (σ 9 s) (σ 1 1) (σ 2 (whereF (σ 6 t) (σ 3 t) (σ 5 t) (σ 9 s)).toNat) (s : Int) (t : Int)) := by
    rw [← hs2]
    rfl
  have e12 : s2 1 2 = σ 1 2 := congrFun (hK2 1 (by omega) (by omega)) 2
  refine x_aload_n 113 C dX3_sees_112 rfl rfl rfl ?_
  refine x_iconst 114 C dX3_sees_113 rfl ?_
  refine x_callVi 117 C dX3_sees_114 rfl (c_X3_ruled hW2 (by omega)) rfl (lt79 (by decide)) rfl tb_3_105 tb_3_107 tb_0_20 tb_1_18 tb_3_108 (na := 1) (by decide +kernel) rfl ⟨by decide, by decide⟩ rfl (Nat.le_of_ble_eq_true rfl) rfl (fun z114 s114 hz114 hq114 hR114 => ?_)
  obtain ⟨k1, k2⟩ := hq114
  rw [hn2, e12] at k2
  first
    | refine x_ifb_eq 124 120 C dX3_sees_117 rfl rfl (fun h117 => ?_) (fun h117 => ?_)
    | refine x_if_eq 124 120 C dX3_sees_117 rfl rfl (by omega) (fun h117 => ?_) (fun h117 => ?_)
  · refine x_iconst 125 C dX3_sees_124 rfl ?_
    refine x_zret C T dX3_sees_125 (by omega) ?_
    refine PI_i (by omega) ?_
    first
      | exact ⟨Kp_refl σ, fun _ => rfl, fun h => absurd h h38⟩
      | (refine ⟨Kp_trans hK2 (Kp_wide (lo := 33) (hi := 32) k1 (by omega) (by omega)), fun h => absurd (h.symm.trans h38) Bool.false_ne_true, fun _ => ⟨?_, ?_⟩⟩
         · rw [← hn2]; unfold nmC; rw [k1 33 (by omega) (by omega)]
         · first
             | (rw [k2] at h117; exact Or.inl ⟨rfl, h117⟩)
             | (rw [k2] at h117; exact Or.inr ⟨rfl, h117⟩))
  refine x_iconst 121 C dX3_sees_120 rfl ?_
  refine x_goto 125 C dX3_sees_121 rfl ?_
  refine x_zret C T dX3_sees_125 (by omega) ?_
  refine PI_i (by omega) ?_
  first
    | exact ⟨Kp_refl σ, fun _ => rfl, fun h => absurd h h38⟩
    | (refine ⟨Kp_trans hK2 (Kp_wide (lo := 33) (hi := 32) k1 (by omega) (by omega)), fun h => absurd (h.symm.trans h38) Bool.false_ne_true, fun _ => ⟨?_, ?_⟩⟩
       · rw [← hn2]; unfold nmC; rw [k1 33 (by omega) (by omega)]
       · first
           | (rw [k2] at h117; exact Or.inl ⟨rfl, h117⟩)
           | (rw [k2] at h117; exact Or.inr ⟨rfl, h117⟩))

theorem worthK_in2 {k n v far : Int} (hn : 0 ≤ n ∧ n ≤ 9) (hv : -99 ≤ v ∧ v ≤ 198) (hf : 0 ≤ far ∧ far ≤ 9) : -1000 ≤ worthK k n v far ∧ worthK k n v far ≤ 1000 := by
  have ht : -99 ≤ v.tdiv 2 ∧ v.tdiv 2 ≤ 198 := by
    rcases Int.le_total 0 v with h0 | h0
    · rw [Int.tdiv_eq_ediv_of_nonneg h0]; omega
    · have e : v.tdiv 2 = -((-v) / 2) := by rw [← Int.tdiv_eq_ediv_of_nonneg (show 0 ≤ -v by omega), Int.neg_tdiv, Int.neg_neg]
      rw [e]; omega
  unfold worthK
  (repeat' split) <;> omega
set_option maxHeartbeats 4000000 in
set_option maxRecDepth 100000 in
theorem c_X3_worthOf {l : Launch} {G : Gt} {ρ : Nat → Nat} {tc : Nat} {cl : Nat → Nat} {σ : Sig} {X : Nat → RuT} {t f : Nat} (hW : CW X tc cl σ) (ht : (t : Int) < σ 1 3) (hf : 1 ≤ f ∧ f ≤ 5) : MX l yX3_worthOf cX3_worthOf 5 (some .int) 3 80 G (NN tc) ρ (shp tc cl) [.ref (ρ 32), .int (iZ (t : Int)), .int (iZ (f : Int))] σ (PI (fun z σ' => Kp 33 32 σ σ' ∧ z = worthF (σ 6 t) (σ 5 t) (σ 4 t + clampF (evL (nmC σ) (prt 1 (X (σ 1 2).toNat))) (-99) 99) f)) := by
  refine MX_of [some (.ref (ρ 32)), some (.int (iZ (t : Int))), some (.int (iZ (f : Int))), none, none] (by decide +kernel) rfl rfl (Nat.le_of_ble_eq_true rfl) ?_
  intro K hKl C T hRng
  subst hKl
  have hT := hW.1
  have h3 := hT.2.2.1
  have hqt := hT.2.2.2.2 t
  have htt : (t : Int).toNat = t := Int.toNat_natCast t
  have hci := clampF_in (v := evL (nmC σ) (prt 1 (X (σ 1 2).toNat))) (show (-99 : Int) ≤ 99 by decide)
  refine x_aload_n 1 C dX3_worthOf_0 rfl rfl rfl ?_
  refine x_getr (j := 0) 4 C rfl (lt79 (by decide)) rfl rfl (by decide) inT3 tb_2_107 rfl dX3_worthOf_1 rfl ?_
  refine x_getr (j := 5) 7 C rfl (lt79 (by decide)) rfl rfl (by decide) inT9 tb_1_52 rfl dX3_worthOf_4 rfl ?_
  refine x_iload_n 8 C dX3_worthOf_7 rfl rfl rfl ?_
  refine x_iald 9 C rfl (lt79 (by decide)) dX3_worthOf_8 rfl (by omega) (by omega) (fun r8 => ?_)
  rw [htt] at r8 ⊢
  refine x_aload_n 10 C dX3_worthOf_9 rfl rfl rfl ?_
  refine x_iconst 11 C dX3_worthOf_10 rfl ?_
  refine x_callVi 14 C dX3_worthOf_11 rfl (c_X3_ruled hW (by omega)) rfl (lt79 (by decide)) rfl tb_3_105 tb_3_107 tb_0_20 tb_1_18 tb_3_108 (na := 1) (by decide +kernel) rfl ⟨by decide, by decide⟩ rfl (Nat.le_of_ble_eq_true rfl) rfl (fun z11 s11 hz11 hq11 hR11 => ?_)
  obtain ⟨k1, k2⟩ := hq11
  refine x_bipush 16 C dX3_worthOf_14 rfl rfl ?_
  refine x_bipush 18 C dX3_worthOf_16 rfl rfl ?_
  refine x_callSe 21 C dX3_worthOf_18 rfl (c_X3_clamped (by omega) (by omega) (by omega) (by omega)) tb_3_120 tb_3_121 tb_1_18 tb_3_122 (na := 3) (by decide +kernel) rfl ⟨by decide, by decide⟩ rfl (Nat.le_of_ble_eq_true rfl) rfl (fun r18 => ?_)
  rw [k2] at r18 ⊢
  refine x_iadd 22 C dX3_worthOf_21 rfl ?_
  refine x_istore_n3 23 C dX3_worthOf_22 rfl rfl ?_
  refine x_aload_n 24 C dX3_worthOf_23 rfl rfl rfl ?_
  refine x_getr (j := 1) 27 C rfl (lt79 (by decide)) rfl rfl (by decide) inT3 tb_2_108 rfl dX3_worthOf_24 rfl ?_
  refine x_aload_n 28 C dX3_worthOf_27 rfl rfl rfl ?_
  refine x_getr (j := 0) 31 C rfl (lt79 (by decide)) rfl rfl (by decide) inT3 tb_2_107 rfl dX3_worthOf_28 rfl ?_
  refine x_getr (j := 7) 34 C rfl (lt79 (by decide)) rfl rfl (by decide) inT9 tb_1_58 rfl dX3_worthOf_31 rfl ?_
  refine x_iload_n 35 C dX3_worthOf_34 rfl rfl rfl ?_
  refine x_iald 36 C rfl (lt79 (by decide)) dX3_worthOf_35 rfl (by omega) (by omega) (fun r35 => ?_)
  rw [show s11 6 (t : Int).toNat = σ 6 t by rw [htt]; exact congrFun (k1 6 (by omega) (by omega)) t] at r35 ⊢
  refine x_aald0 37 C rfl (lt79 (by decide)) dX3_worthOf_36 rfl (by omega) (by omega) rfl ?_
  refine x_astore_4 39 C dX3_worthOf_37 rfl rfl ?_
  refine x_iconst 40 C dX3_worthOf_39 rfl ?_
  refine x_aload 42 C dX3_worthOf_40 rfl rfl ?_
  refine x_iload_n 43 C dX3_worthOf_42 rfl rfl rfl ?_
  refine x_iload_n 44 C dX3_worthOf_43 rfl rfl rfl ?_
  refine x_aload_n 45 C dX3_worthOf_44 rfl rfl rfl ?_
  refine x_getr (j := 0) 48 C rfl (lt79 (by decide)) rfl rfl (by decide) inT3 tb_2_107 rfl dX3_worthOf_45 rfl ?_
  refine x_getr (j := 6) 51 C rfl (lt79 (by decide)) rfl rfl (by decide) inT9 tb_1_55 rfl dX3_worthOf_48 rfl ?_
  refine x_iload_n 52 C dX3_worthOf_51 rfl rfl rfl ?_
  refine x_iald 53 C rfl (lt79 (by decide)) dX3_worthOf_52 rfl (by omega) (by omega) (fun r52 => ?_)
  rw [show s11 5 (t : Int).toNat = σ 5 t by rw [htt]; exact congrFun (k1 5 (by omega) (by omega)) t] at r52 ⊢
  refine x_worth 56 C dX3_worthOf_53 rfl tb_3_124 (kd := (σ 6 t).toNat) (by omega) (by omega) (by omega) (by omega) ⟨by decide, by decide⟩ (Nat.le_of_ble_eq_true rfl) rfl ?_
  rw [show (((σ 6 t).toNat : Nat) : Int) = σ 6 t by omega]
  have hwk := worthK_in2 (k := σ 6 t) (n := σ 5 t) (v := σ 4 t + clampF (evL (nmC σ) (prt 1 (X (σ 1 2).toNat))) (-99) 99) (far := (f : Int)) (by omega) (by omega) (by omega)
  refine x_mmax 59 C tb_3_76 tb_3_77 tb_1_16 tb_3_78 dX3_worthOf_56 rfl (by omega) (by omega) ⟨by decide, Nat.le_of_ble_eq_true rfl⟩ rfl ?_
  refine x_iret C T dX3_worthOf_59 ?_
  refine PI_i (by split <;> omega) ⟨k1, ?_⟩
  unfold worthF
  (repeat' split) <;> omega

set_option maxHeartbeats 4000000 in
set_option maxRecDepth 100000 in
theorem c_X3_sleepOf {l : Launch} {G : Gt} {ρ : Nat → Nat} {tc : Nat} {cl : Nat → Nat} {σ : Sig} {X : Nat → RuT} {s : Nat} (hW : CW X tc cl σ) (hs : (s : Int) < σ 1 8) : MX l yX3_sleepOf cX3_sleepOf 2 (some .int) 3 71 G (NN tc) ρ (shp tc cl) [.ref (ρ 32), .int (iZ (s : Int))] σ (PI (fun z σ' => Kp 33 33 σ σ' ∧ z = clampF (evL (nmF 0 (σ 9 s) 0 0 (s : Int) 0) (prt 2 (X (σ 1 2).toNat))) 0 99)) := by
  refine MX_of [some (.ref (ρ 32)), some (.int (iZ (s : Int)))] (by decide +kernel) rfl rfl (Nat.le_of_ble_eq_true rfl) ?_
  intro K hKl C T hRng
  subst hKl
  have hT := hW.1
  have h8 := hT.2.2.2.1
  have hqs := hT.2.2.2.2 s
  have hss : (s : Int).toNat = s := Int.toNat_natCast s
  have hci := clampF_in (v := evL (nmF 0 (σ 9 s) 0 0 (s : Int) 0) (prt 2 (X (σ 1 2).toNat))) (show (0 : Int) ≤ 99 by decide)
  refine x_aload_n 1 C dX3_sleepOf_0 rfl rfl rfl ?_
  refine x_getr (j := 3) 4 C rfl (lt79 (by decide)) rfl rfl (by decide) inT3 tb_2_110 rfl dX3_sleepOf_1 rfl ?_
  refine x_iconst 5 C dX3_sleepOf_4 rfl ?_
  refine x_callTv 8 C dX3_sleepOf_5 rfl (c_J7_fill_53178 rfl (lt79 (by decide)) (by omega) (by omega)) tb_3_198 tb_3_199 tb_1_15 tb_3_200 (na := 2) (by decide +kernel) rfl ⟨by decide, by decide⟩ rfl (Nat.le_of_ble_eq_true rfl) rfl (fun s5 hq5 hR5 => ?_)
  have hK5 : Kp 33 33 σ s5 := fun a h1 h2 => by
    rw [hq5]
    funext b
    dsimp only
    rw [if_neg (by omega)]
  refine x_aload_n 9 C dX3_sleepOf_8 rfl rfl rfl ?_
  refine x_getr (j := 3) 12 C rfl (lt79 (by decide)) rfl rfl (by decide) inT3 tb_2_110 rfl dX3_sleepOf_9 rfl ?_
  refine x_iconst 13 C dX3_sleepOf_12 rfl ?_
  refine x_aload_n 14 C dX3_sleepOf_13 rfl rfl rfl ?_
  refine x_getr (j := 0) 17 C rfl (lt79 (by decide)) rfl rfl (by decide) inT3 tb_2_107 rfl dX3_sleepOf_14 rfl ?_
  refine x_getr (j := 11) 20 C rfl (lt79 (by decide)) rfl rfl (by decide) inT9 tb_1_69 rfl dX3_sleepOf_17 rfl ?_
  refine x_iload_n 21 C dX3_sleepOf_20 rfl rfl rfl ?_
  refine x_iald 22 C rfl (lt79 (by decide)) dX3_sleepOf_21 rfl (by have := congrFun (hK5 1 (by omega) (by omega)) 8; omega) (by omega) (fun r21 => ?_)
  rw [show s5 9 (s : Int).toNat = σ 9 s by rw [hss]; exact congrFun (hK5 9 (by omega) (by omega)) s] at r21 ⊢
  refine x_iast 23 C rfl (lt79 (by decide)) dX3_sleepOf_22 rfl (by omega) (by omega) (by omega) ?_
  refine x_aload_n 24 C dX3_sleepOf_23 rfl rfl rfl ?_
  refine x_getr (j := 3) 27 C rfl (lt79 (by decide)) rfl rfl (by decide) inT3 tb_2_110 rfl dX3_sleepOf_24 rfl ?_
  refine x_iconst 28 C dX3_sleepOf_27 rfl ?_
  refine x_iload_n 29 C dX3_sleepOf_28 rfl rfl rfl ?_
  refine x_iast 30 C rfl (lt79 (by decide)) dX3_sleepOf_29 rfl (by omega) (by omega) (by omega) ?_
  obtain ⟨s2, hs2⟩ : ∃ s2, up (up s5 33 (1 : Int).toNat (σ 9 s)) 33 (4 : Int).toNat (s : Int) = s2 := ⟨_, rfl⟩
  rw [hs2]
  have hK2 : Kp 33 33 σ s2 := by rw [← hs2]; exact Kp_up (Kp_up hK5 (by omega)) (by omega)
  have hW2 : CW X tc cl s2 := CW_Kp hW hK2 (by omega)
  have hn2 : nmC s2 = nmF 0 (σ 9 s) 0 0 (s : Int) 0 := by
    rw [← hs2, hq5]
    rfl
  have e12 : s2 1 2 = σ 1 2 := congrFun (hK2 1 (by omega) (by omega)) 2
  refine x_aload_n 31 C dX3_sleepOf_30 rfl rfl rfl ?_
  refine x_iconst 32 C dX3_sleepOf_31 rfl ?_
  refine x_callVi 35 C dX3_sleepOf_32 rfl (c_X3_ruled hW2 (by omega)) rfl (lt79 (by decide)) rfl tb_3_105 tb_3_107 tb_0_20 tb_1_18 tb_3_108 (na := 1) (by decide +kernel) rfl ⟨by decide, by decide⟩ rfl (Nat.le_of_ble_eq_true rfl) rfl (fun z32 s32 hz32 hq32 hR32 => ?_)
  obtain ⟨k1, k2⟩ := hq32
  rw [hn2, e12] at k2
  refine x_iconst 36 C dX3_sleepOf_35 rfl ?_
  refine x_bipush 38 C dX3_sleepOf_36 rfl rfl ?_
  refine x_callSe 41 C dX3_sleepOf_38 rfl (c_X3_clamped (by omega) (by omega) (by omega) (by omega)) tb_3_120 tb_3_121 tb_1_18 tb_3_122 (na := 3) (by decide +kernel) rfl ⟨by decide, by decide⟩ rfl (Nat.le_of_ble_eq_true rfl) rfl (fun r38 => ?_)
  rw [k2] at r38 ⊢
  refine x_iret C T dX3_sleepOf_41 ?_
  exact PI_i (by omega) ⟨Kp_trans hK2 (Kp_wide (lo := 33) (hi := 32) k1 (by omega) (by omega)), rfl⟩

/-- the list l of a bed's way, with what each thing is worth -/
def LKa (σ : Sig) (l : Nat) (L : List (Nat × Nat)) (wf : Nat × Nat → Int) : Prop := σ 36 l = (L.length : Int) ∧ ∀ i q, L[i]? = some q → σ 37 (6 * l + i) = (q.1 : Int) ∧ σ 38 (6 * l + i) = wf q
/-- the other lists stay -/
def OLk (l : Nat) (σ σ' : Sig) : Prop := (∀ i, i ≠ l → σ' 36 i = σ 36 i) ∧ ∀ i, ¬ (6 * l ≤ i ∧ i < 6 * l + 6) → σ' 37 i = σ 37 i ∧ σ' 38 i = σ 38 i
theorem OLk_refl {l : Nat} (σ : Sig) : OLk l σ σ := ⟨fun _ _ => rfl, fun _ _ => ⟨rfl, rfl⟩⟩
theorem OLk_Kp {l lo hi : Nat} {σ s s' : Sig} (h : OLk l σ s) (hk : Kp lo hi s s') (h2 : hi < 36) : OLk l σ s' := by
  refine ⟨fun i hi => ?_, fun i hi => ?_⟩
  · rw [hk 36 (by omega) (by omega)]; exact h.1 i hi
  · rw [hk 37 (by omega) (by omega), hk 38 (by omega) (by omega)]; exact h.2 i hi
theorem OLk_trans {l : Nat} {σ s s' : Sig} (h : OLk l σ s) (h2 : OLk l s s') : OLk l σ s' := ⟨fun i hi => (h2.1 i hi).trans (h.1 i hi), fun i hi => ⟨(h2.2 i hi).1.trans (h.2 i hi).1, (h2.2 i hi).2.trans (h.2 i hi).2⟩⟩
theorem LKa_other {l l' : Nat} {σ s : Sig} {L : List (Nat × Nat)} {wf : Nat × Nat → Int} (h : LKa σ l' L wf) (ho : OLk l σ s) (hne : l' ≠ l) (h6 : L.length ≤ 6) : LKa s l' L wf := by
  refine ⟨by rw [ho.1 l' hne]; exact h.1, fun i q hi => ?_⟩
  have hlt := (List.getElem?_eq_some_iff.mp hi).1
  have hn : ¬ (6 * l ≤ 6 * l' + i ∧ 6 * l' + i < 6 * l + 6) := by omega
  obtain ⟨e1, e2⟩ := ho.2 _ hn
  rw [e1, e2]
  exact h.2 i q hi
theorem LKa_keep {l : Nat} {σ s : Sig} {L : List (Nat × Nat)} {wf : Nat × Nat → Int} (h : LKa σ l L wf) (h1 : s 36 = σ 36) (h2 : s 37 = σ 37) (h3 : s 38 = σ 38) : LKa s l L wf := by
  unfold LKa at h ⊢
  rw [h1, h2, h3]
  exact h
/-- the list l as far as it is filled -/
def CTN (σ : Sig) (l : Nat) (L : List (Nat × Nat)) (wf : Nat × Nat → Int) : Prop := ∀ i q, L[i]? = some q → σ 37 (6 * l + i) = (q.1 : Int) ∧ σ 38 (6 * l + i) = wf q
theorem CTN_push {σ s : Sig} {l : Nat} {L : List (Nat × Nat)} {wf : Nat × Nat → Int} {q : Nat × Nat} (h : CTN σ l L wf) (h1 : ∀ i, i ≠ 6 * l + L.length → s 37 i = σ 37 i ∧ s 38 i = σ 38 i) (h2 : s 37 (6 * l + L.length) = (q.1 : Int)) (h3 : s 38 (6 * l + L.length) = wf q) : CTN s l (L ++ [q]) wf := by
  intro i x hi
  by_cases hil : i = L.length
  · subst hil
    rw [List.getElem?_append_right (Nat.le_refl _)] at hi
    simp only [Nat.sub_self, List.getElem?_cons_zero, Option.some.injEq] at hi
    subst hi
    exact ⟨h2, h3⟩
  · have hlt := (List.getElem?_eq_some_iff.mp hi).1
    simp only [List.length_append, List.length_cons, List.length_nil] at hlt
    rw [List.getElem?_append_left (by omega)] at hi
    obtain ⟨e1, e2⟩ := h1 (6 * l + i) (by omega)
    rw [e1, e2]
    exact h i x hi
theorem CTN_keep {σ s : Sig} {l : Nat} {L : List (Nat × Nat)} {wf : Nat × Nat → Int} (h : CTN σ l L wf) (h1 : s 37 = σ 37) (h2 : s 38 = σ 38) : CTN s l L wf := by
  unfold CTN at h ⊢
  rw [h1, h2]
  exact h
/-- what stands while one looks -/
def LKI (X : Nat → RuT) (σ : Sig) (s l : Nat) (L : List (Nat × Nat)) (s1 : Sig) : Prop := Kp 33 38 σ s1 ∧ OLk l σ s1 ∧ (∀ t : Nat, (t : Int) < σ 1 3 → s1 34 t = plc (cT σ) t (σ 9 s)) ∧ (∀ f : Nat, 1 ≤ f → f ≤ 5 → s1 35 f = viewF (σ 2) (σ 7 s) (σ 8 s) f) ∧ CTN s1 l L (wrth X (cT σ) (σ 9 s) s)
theorem LKI_Kp {X : Nat → RuT} {σ s1 s2 : Sig} {s l : Nat} {L : List (Nat × Nat)} (h : LKI X σ s l L s1) {hi : Nat} (hk : Kp 33 hi s1 s2) (h2 : hi ≤ 33) : LKI X σ s l L s2 := by
  obtain ⟨a1, a2, a3, a4, a5⟩ := h
  have e34 := hk 34 (by omega) (by omega)
  have e35 := hk 35 (by omega) (by omega)
  exact ⟨Kp_trans a1 (Kp_wide hk (by omega) (by omega)), OLk_Kp a2 hk (by omega), fun t ht => by rw [e34]; exact a3 t ht, fun f h1 h2 => by rw [e35]; exact a4 f h1 h2, CTN_keep a5 (hk 37 (by omega) (by omega)) (hk 38 (by omega) (by omega))⟩
set_option maxHeartbeats 4000000 in
set_option maxRecDepth 100000 in
theorem c_X3_look {l : Launch} {G : Gt} {ρ : Nat → Nat} {tc : Nat} {cl : Nat → Nat} {σ : Sig} {X : Nat → RuT} {s : Nat} (hW : CW X tc cl σ) (hs : (s : Int) < σ 1 8) : MX l yX3_look cX3_look 6 none 4 104 G (NN tc) ρ (shp tc cl) [.ref (ρ 32), .int (iZ (s : Int))] σ (PV (fun σ' => Kp 33 38 σ σ' ∧ OLk (4 * s + (σ 8 s).toNat) σ σ' ∧ LKa σ' (4 * s + (σ 8 s).toNat) (seenT X (cT σ) s) (wrth X (cT σ) (σ 9 s) s))) := by
  refine MX_of [some (.ref (ρ 32)), some (.int (iZ (s : Int))), none, none, none, none] (by decide +kernel) rfl rfl (Nat.le_of_ble_eq_true rfl) ?_
  intro K hKl C T hRng
  subst hKl
  have hT := hW.1
  have h3 := hT.2.2.1
  have h8 := hT.2.2.2.1
  have hqs := hT.2.2.2.2 s
  have hss : (s : Int).toNat = s := Int.toNat_natCast s
  have hthN : thN (cT σ) = (σ 1 3).toNat := rfl
  obtain ⟨l, hl⟩ : ∃ l, 4 * s + (σ 8 s).toNat = l := ⟨_, rfl⟩
  refine x_iload_n 1 C dX3_look_0 rfl rfl rfl ?_
  refine x_iconst 2 C dX3_look_1 rfl ?_
  refine x_imul 3 C dX3_look_2 rfl ?_
  refine x_aload_n 4 C dX3_look_3 rfl rfl rfl ?_
  refine x_getr (j := 0) 7 C rfl (lt79 (by decide)) rfl rfl (by decide) inT3 tb_2_107 rfl dX3_look_4 rfl ?_
  refine x_getr (j := 10) 10 C rfl (lt79 (by decide)) rfl rfl (by decide) inT9 tb_1_66 rfl dX3_look_7 rfl ?_
  refine x_iload_n 11 C dX3_look_10 rfl rfl rfl ?_
  refine x_iald 12 C rfl (lt79 (by decide)) dX3_look_11 rfl (by omega) (by omega) (fun r11 => ?_)
  rw [hss] at r11 ⊢
  refine x_iadd 13 C dX3_look_12 rfl ?_
  rw [show (s : Int) * 4 + σ 8 s = ((4 * s + (σ 8 s).toNat : Nat) : Int) by omega]
  refine x_istore_n2 14 C dX3_look_13 rfl rfl ?_
  refine x_iconst 15 C dX3_look_14 rfl ?_
  refine x_istore_n3 16 C dX3_look_15 rfl rfl ?_
  refine x_aload_n 17 C dX3_look_16 rfl rfl rfl ?_
  refine x_aload_n 18 C dX3_look_17 rfl rfl rfl ?_
  refine x_getr (j := 0) 21 C rfl (lt79 (by decide)) rfl rfl (by decide) inT3 tb_2_107 rfl dX3_look_18 rfl ?_
  refine x_getr (j := 11) 24 C rfl (lt79 (by decide)) rfl rfl (by decide) inT9 tb_1_69 rfl dX3_look_21 rfl ?_
  refine x_iload_n 25 C dX3_look_24 rfl rfl rfl ?_
  refine x_iald 26 C rfl (lt79 (by decide)) dX3_look_25 rfl (by omega) (by omega) (fun r25 => ?_)
  rw [hss] at r25 ⊢
  refine x_callVv 29 C dX3_look_26 rfl (c_X3_placeThings (by omega) hT) rfl (lt79 (by decide)) rfl tb_3_62 tb_3_64 tb_0_17 tb_1_18 tb_3_65 (na := 1) (by decide +kernel) rfl ⟨by decide, by decide⟩ rfl (Nat.le_of_ble_eq_true rfl) rfl (fun s26 hq26 hR26 => ?_)
  obtain ⟨k1, k2⟩ := hq26
  have hT26 := Kp_TI k1 (by omega) hT
  have f7 : s26 7 = σ 7 := k1 7 (by omega) (by omega)
  have f8 : s26 8 = σ 8 := k1 8 (by omega) (by omega)
  have f2 : s26 2 = σ 2 := k1 2 (by omega) (by omega)
  have f18 : s26 1 8 = σ 1 8 := congrFun (k1 1 (by omega) (by omega)) 8
  refine x_aload_n 30 C dX3_look_29 rfl rfl rfl ?_
  refine x_iload_n 31 C dX3_look_30 rfl rfl rfl ?_
  refine x_callVv 34 C dX3_look_31 rfl (c_X3_findView (by omega) hT26) rfl (lt79 (by decide)) rfl tb_3_67 tb_3_69 tb_0_18 tb_1_18 tb_3_70 (na := 1) (by decide +kernel) rfl ⟨by decide, by decide⟩ rfl (Nat.le_of_ble_eq_true rfl) rfl (fun s31 hq31 hR31 => ?_)
  obtain ⟨k3, k4⟩ := hq31
  rw [f7, f8, f2] at k4
  have hLI : LKI X σ s (4 * s + (σ 8 s).toNat) ((seenP X (cT σ) (σ 7 s) (σ 8 s) (σ 9 s) s (thN (cT σ)) (0)) ++ (rowS1 X (cT σ) (σ 7 s) (σ 8 s) (σ 9 s) s (1) (0))) s31 := by
    refine ⟨Kp_trans (Kp_wide k1 (by omega) (by omega)) (Kp_wide k3 (by omega) (by omega)), OLk_Kp (OLk_Kp (OLk_refl σ) k1 (by omega)) k3 (by omega), fun t ht => ?_, k4, fun i q hi => by simp [seenP, rowS1] at hi⟩
    rw [k3 34 (by omega) (by omega), k2 t ht]
    unfold plc
    rw [cT_6 ht]
    rfl
  refine x_iconst 35 C dX3_look_34 rfl ?_
  refine x_istore_4 37 C dX3_look_35 rfl rfl ?_
  have L37 : ∀ (mz : Nat) (F : Nat) (mn y : Int) (s1 : Sig) (x5 : Option Value), mz = 5 - F → (F ≤ 5 ∧ y = ((F + 1 : Nat) : Int) ∧ mn = (((seenP X (cT σ) (σ 7 s) (σ 8 s) (σ 9 s) s (thN (cT σ)) (F))).length : Int) ∧ LKI X σ s (4 * s + (σ 8 s).toNat) ((seenP X (cT σ) (σ 7 s) (σ 8 s) (σ 9 s) s (thN (cT σ)) (F)) ++ (rowS1 X (cT σ) (σ 7 s) (σ 8 s) (σ 9 s) s (F + 1) (0))) s1) → Ex K G (NN tc) ρ (shp tc cl) 37 [some (.ref (ρ 32)), some (.int (iZ (s : Int))), some (.int (iZ ((4 * s + (σ 8 s).toNat : Nat) : Int))), some (.int (iZ mn)), some (.int (iZ y)), x5] [] s1 := by
    intro mz
    induction mz using Nat.strongRecOn with
    | ind mz ih =>
      intro F mn y s1 x5 hmz hinv
      have ihF := ih
      obtain ⟨hF, rfl, rfl, hLI0⟩ := hinv
      have hlen0 := seenP_le (X := X) (T := cT σ) (c := σ 7 s) (w := σ 8 s) (m := σ 9 s) (s := s) (TI_cT hT) (by omega) (by omega) F (thN (cT σ))
      refine x_iload 39 C dX3_look_37 rfl rfl ?_
      refine x_bipush 41 C dX3_look_39 rfl rfl ?_
      refine x_icmp_ge 135 44 C dX3_look_41 rfl rfl (by omega) (by omega) (fun h41 => ?_) (fun h41 => ?_)
      · refine x_aload_n 136 C dX3_look_135 rfl rfl rfl ?_
        refine x_getr (j := 6) 139 C rfl (lt79 (by decide)) rfl rfl (by decide) inT3 tb_2_113 rfl dX3_look_136 rfl ?_
        refine x_iload_n 140 C dX3_look_139 rfl rfl rfl ?_
        refine x_iload_n 141 C dX3_look_140 rfl rfl rfl ?_
        refine x_iast 142 C rfl (lt79 (by decide)) dX3_look_141 rfl (by omega) (by omega) (by omega) ?_
        refine x_vret C T dX3_look_142 ?_
        obtain rfl : F = 5 := by omega
        have hsG : (seenP X (cT σ) (σ 7 s) (σ 8 s) (σ 9 s) s (thN (cT σ)) (5)) ++ (rowS1 X (cT σ) (σ 7 s) (σ 8 s) (σ 9 s) s (5 + 1) (0)) = seenT X (cT σ) s := by
          show _ = seenP X (cT σ) (σ 7 s) (σ 8 s) (σ 9 s) s (thN (cT σ)) 5
          simp [rowS1]
        have hln : ((seenP X (cT σ) (σ 7 s) (σ 8 s) (σ 9 s) s (thN (cT σ)) (5))).length = (seenT X (cT σ) s).length := by rw [← hsG]; simp [rowS1]
        have hlt : (((4 * s + (σ 8 s).toNat : Nat) : Int)).toNat = 4 * s + (σ 8 s).toNat := Int.toNat_natCast _
        rw [hlt]
        obtain ⟨a1, a2, a3, a4, a5⟩ := hLI0
        rw [hsG] at a5
        refine PV_i ⟨Kp_up a1 (by omega), ⟨fun i hi => by rw [up_i hi]; exact a2.1 i hi, fun i hi => by rw [up_r (by omega), up_r (by omega)]; exact a2.2 i hi⟩, ?_, fun i q hi => ?_⟩
        · rw [up_s, hln]
        · rw [up_r (by omega), up_r (by omega)]; exact a5 i q hi
      refine x_iconst 45 C dX3_look_44 rfl ?_
      refine x_istore_5 47 C dX3_look_45 rfl rfl ?_
      have L47 : ∀ (mz : Nat) (k : Nat) (mn y : Int) (s1 : Sig), mz = 6 - k → ((k : Int) ≤ σ 1 3 ∧ y = k ∧ mn = (((seenP X (cT σ) (σ 7 s) (σ 8 s) (σ 9 s) s (thN (cT σ)) (F)) ++ (rowS1 X (cT σ) (σ 7 s) (σ 8 s) (σ 9 s) s (F + 1) (k))).length : Int) ∧ LKI X σ s (4 * s + (σ 8 s).toNat) ((seenP X (cT σ) (σ 7 s) (σ 8 s) (σ 9 s) s (thN (cT σ)) (F)) ++ (rowS1 X (cT σ) (σ 7 s) (σ 8 s) (σ 9 s) s (F + 1) (k))) s1) → Ex K G (NN tc) ρ (shp tc cl) 47 [some (.ref (ρ 32)), some (.int (iZ (s : Int))), some (.int (iZ ((4 * s + (σ 8 s).toNat : Nat) : Int))), some (.int (iZ mn)), some (.int (iZ ((F + 1 : Nat) : Int))), some (.int (iZ y))] [] s1 := by
        intro mz
        induction mz using Nat.strongRecOn with
        | ind mz ih =>
          intro k mn y s1 hmz hinv
          obtain ⟨hk, rfl, hmn, hLI1⟩ := hinv
          have hkk : (k : Int).toNat = k := Int.toNat_natCast k
          have hFF : ((F + 1 : Nat) : Int).toNat = F + 1 := Int.toNat_natCast _
          have hK1 := hLI1.1
          have hW1 : CW X tc cl s1 := CW_Kp hW hK1 (by omega)
          have e1 : s1 1 = σ 1 := hK1 1 (by omega) (by omega)
          have e2 : s1 2 = σ 2 := hK1 2 (by omega) (by omega)
          have e3 : s1 3 = σ 3 := hK1 3 (by omega) (by omega)
          have e5 : s1 5 = σ 5 := hK1 5 (by omega) (by omega)
          have e6 : s1 6 = σ 6 := hK1 6 (by omega) (by omega)
          have e9 : s1 9 = σ 9 := hK1 9 (by omega) (by omega)
          have e13 : s1 1 3 = σ 1 3 := congrFun e1 3
          have e18 : s1 1 8 = σ 1 8 := congrFun e1 8
          have hmle : mn ≤ 36 := by
            have a1 := seenP_le (X := X) (T := cT σ) (c := σ 7 s) (w := σ 8 s) (m := σ 9 s) (s := s) (TI_cT hT) (by omega) (by omega) F (thN (cT σ))
            have a2 : (rowS1 X (cT σ) (σ 7 s) (σ 8 s) (σ 9 s) s (F + 1) k).length ≤ k := by unfold rowS1; rw [List.length_map]; exact Nat.le_trans (List.length_filter_le _ _) (by simp)
            rw [hmn, List.length_append]; omega
          refine x_iload 49 C dX3_look_47 rfl rfl ?_
          refine x_aload_n 50 C dX3_look_49 rfl rfl rfl ?_
          refine x_getr (j := 0) 53 C rfl (lt79 (by decide)) rfl rfl (by decide) inT3 tb_2_107 rfl dX3_look_50 rfl ?_
          refine x_geti (j := 3) 56 C rfl (lt79 (by decide)) rfl rfl (by decide) inT9 tb_1_46 rfl dX3_look_53 rfl (fun r53 => ?_)
          refine x_icmp_ge 129 59 C dX3_look_56 rfl rfl (by omega) (by omega) (fun h56 => ?_) (fun h56 => ?_)
          · have hkth : thN (cT σ) = k := by rw [hthN]; omega
            refine x_iinc_4 132 C dX3_look_129 rfl rfl ?_
            refine x_goto 37 C dX3_look_132 rfl ?_
            refine ihF _ (by omega) (F + 1) _ _ _ _ rfl ⟨by omega, by omega, ?_, ?_⟩
            · rw [hkth] at hmn; rw [seenP_s, hkth]; exact hmn
            · rw [show (seenP X (cT σ) (σ 7 s) (σ 8 s) (σ 9 s) s (thN (cT σ)) (F + 1)) ++ (rowS1 X (cT σ) (σ 7 s) (σ 8 s) (σ 9 s) s (F + 1 + 1) (0)) = (seenP X (cT σ) (σ 7 s) (σ 8 s) (σ 9 s) s (thN (cT σ)) (F)) ++ (rowS1 X (cT σ) (σ 7 s) (σ 8 s) (σ 9 s) s (F + 1) (k)) by rw [seenP_s, hkth]; simp [rowS1]]; exact hLI1
          have hklt : (k : Int) < σ 1 3 := by omega
          have hpk := hLI1.2.2.1 k hklt
          have hvk := hLI1.2.2.2.1 (F + 1) (by omega) (by omega)
          have hc6 : cT σ 6 k = σ 6 k := cT_6 hklt
          have hp1 : s1 34 k = whereF (s1 6 k) (s1 3 k) (s1 5 k) (s1 9 s) := by
            rw [hpk, e6, e3, e5, e9]
            unfold plc
            rw [hc6]
            rfl
          have J123 : ∀ (mn2 : Int) (s3 : Sig), (mn2 = (((seenP X (cT σ) (σ 7 s) (σ 8 s) (σ 9 s) s (thN (cT σ)) (F)) ++ (rowS1 X (cT σ) (σ 7 s) (σ 8 s) (σ 9 s) s (F + 1) (k + 1))).length : Int) ∧ LKI X σ s (4 * s + (σ 8 s).toNat) ((seenP X (cT σ) (σ 7 s) (σ 8 s) (σ 9 s) s (thN (cT σ)) (F)) ++ (rowS1 X (cT σ) (σ 7 s) (σ 8 s) (σ 9 s) s (F + 1) (k + 1))) s3) → Ex K G (NN tc) ρ (shp tc cl) 123 [some (.ref (ρ 32)), some (.int (iZ (s : Int))), some (.int (iZ ((4 * s + (σ 8 s).toNat : Nat) : Int))), some (.int (iZ mn2)), some (.int (iZ ((F + 1 : Nat) : Int))), some (.int (iZ (k : Int)))] [] s3 := by
            intro mn2 s3 hinv
            obtain ⟨hmn2, hLI3⟩ := hinv
            refine x_iinc_5 126 C dX3_look_123 rfl rfl ?_
            refine x_goto 47 C dX3_look_126 rfl ?_
            exact ih _ (by omega) (k + 1) _ _ _ rfl ⟨by omega, by omega, hmn2, hLI3⟩
          refine x_aload_n 60 C dX3_look_59 rfl rfl rfl ?_
          refine x_getr (j := 4) 63 C rfl (lt79 (by decide)) rfl rfl (by decide) inT3 tb_2_111 rfl dX3_look_60 rfl ?_
          refine x_iload 65 C dX3_look_63 rfl rfl ?_
          refine x_iald 66 C rfl (lt79 (by decide)) dX3_look_65 rfl (by omega) (by omega) (fun r65 => ?_)
          refine x_aload_n 67 C dX3_look_66 rfl rfl rfl ?_
          refine x_getr (j := 5) 70 C rfl (lt79 (by decide)) rfl rfl (by decide) inT3 tb_2_112 rfl dX3_look_67 rfl ?_
          refine x_iload 72 C dX3_look_70 rfl rfl ?_
          refine x_iald 73 C rfl (lt79 (by decide)) dX3_look_72 rfl (by omega) (by omega) (fun r72 => ?_)
          refine x_icmp_ne 123 76 C dX3_look_73 rfl rfl (by omega) (by omega) (fun h73 => ?_) (fun h73 => ?_)
          · have hno : isSn X (cT σ) (σ 7 s) (σ 8 s) (σ 9 s) s (F + 1) k = false := by
              unfold isSn
              rw [Bool.and_eq_false_iff]
              refine Or.inl ?_
              rw [decide_eq_false_iff_not]
              intro h
              rw [hkk, hFF, hpk, hvk] at h73
              exact h73 h
            have hj : mn = (((seenP X (cT σ) (σ 7 s) (σ 8 s) (σ 9 s) s (thN (cT σ)) (F)) ++ (rowS1 X (cT σ) (σ 7 s) (σ 8 s) (σ 9 s) s (F + 1) (k + 1))).length : Int) ∧ LKI X σ s (4 * s + (σ 8 s).toNat) ((seenP X (cT σ) (σ 7 s) (σ 8 s) (σ 9 s) s (thN (cT σ)) (F)) ++ (rowS1 X (cT σ) (σ 7 s) (σ 8 s) (σ 9 s) s (F + 1) (k + 1))) s1 := by
              rw [rowS1_s, hno]
              simp only [Bool.false_eq_true, if_false, List.append_nil]
              exact ⟨hmn, hLI1⟩
            exact J123 _ _ hj
          rw [hkk, hFF, hpk, hvk] at h73
          have hplk : plc (cT σ) k (σ 9 s) = whereF (σ 6 k) (σ 3 k) (σ 5 k) (σ 9 s) := by
            unfold plc
            rw [hc6]
            rfl
          have hdef : isSn X (cT σ) (σ 7 s) (σ 8 s) (σ 9 s) s (F + 1) k = (showsF (σ 6 k) (σ 5 k) (σ 1 1) ((F + 1 : Nat) : Int) && decide (evL (nmF ((F + 1 : Nat) : Int) (σ 9 s) (σ 1 1) (σ 2 (whereF (σ 6 k) (σ 3 k) (σ 5 k) (σ 9 s)).toNat) (s : Int) (k : Int)) (prt 0 (X (σ 1 2).toNat)) ≠ 0)) := by
            unfold isSn
            rw [show decide (plc (cT σ) k (σ 9 s) = viewF ((cT σ) 2) (σ 7 s) (σ 8 s) (F + 1)) = true from decide_eq_true h73, Bool.true_and, hplk, hc6]
            rfl
          refine x_aload_n 77 C dX3_look_76 rfl rfl rfl ?_
          refine x_iload_n 78 C dX3_look_77 rfl rfl rfl ?_
          refine x_iload 80 C dX3_look_78 rfl rfl ?_
          refine x_iload 82 C dX3_look_80 rfl rfl ?_
          refine x_callVi 85 C dX3_look_82 rfl (c_X3_sees (X := X) (s := s) (t := k) (f := F + 1) hW1 (by rw [e18]; exact hs) (by rw [e13]; omega) (by omega) hp1) rfl (lt79 (by decide)) rfl tb_3_79 tb_3_81 tb_0_19 tb_1_18 tb_3_82 (na := 3) (by decide +kernel) rfl ⟨by decide, by decide⟩ rfl (Nat.le_of_ble_eq_true rfl) rfl (fun z82 s82 hz82 hq82 hR82 => ?_)
          obtain ⟨g1, g2, g3⟩ := hq82
          rw [e1, e5, e6] at g2
          rw [e1, e2, e3, e5, e6, e9] at g3
          have hLI2 := LKI_Kp hLI1 g1 (by omega)
          first
            | refine x_ifb_eq 123 88 C dX3_look_85 rfl rfl (fun h85 => ?_) (fun h85 => ?_)
            | refine x_if_eq 123 88 C dX3_look_85 rfl rfl (by omega) (fun h85 => ?_) (fun h85 => ?_)
          · have hno : isSn X (cT σ) (σ 7 s) (σ 8 s) (σ 9 s) s (F + 1) k = false := by
              rw [hdef]
              cases hsh : showsF (σ 6 k) (σ 5 k) (σ 1 1) ((F + 1 : Nat) : Int) with
              | false => rfl
              | true =>
                rcases (g3 hsh).2 with h | h
                · omega
                · rw [Bool.true_and, decide_eq_false_iff_not]; exact fun h2 => h2 h.2
            have hj : mn = (((seenP X (cT σ) (σ 7 s) (σ 8 s) (σ 9 s) s (thN (cT σ)) (F)) ++ (rowS1 X (cT σ) (σ 7 s) (σ 8 s) (σ 9 s) s (F + 1) (k + 1))).length : Int) ∧ LKI X σ s (4 * s + (σ 8 s).toNat) ((seenP X (cT σ) (σ 7 s) (σ 8 s) (σ 9 s) s (thN (cT σ)) (F)) ++ (rowS1 X (cT σ) (σ 7 s) (σ 8 s) (σ 9 s) s (F + 1) (k + 1))) s82 := by
              rw [rowS1_s, hno]
              simp only [Bool.false_eq_true, if_false, List.append_nil]
              exact ⟨hmn, hLI2⟩
            exact J123 _ _ hj
          have hsh : showsF (σ 6 k) (σ 5 k) (σ 1 1) ((F + 1 : Nat) : Int) = true := by
            cases hsh : showsF (σ 6 k) (σ 5 k) (σ 1 1) ((F + 1 : Nat) : Int) with
            | false => have := g2 hsh; omega
            | true => rfl
          have hyes : isSn X (cT σ) (σ 7 s) (σ 8 s) (σ 9 s) s (F + 1) k = true := by
            rw [hdef, hsh, Bool.true_and, decide_eq_true_eq]
            rcases (g3 hsh).2 with h | h
            · exact h.2
            · omega
          have hroom := seen_room (X := X) (T := cT σ) (c := σ 7 s) (w := σ 8 s) (m := σ 9 s) (s := s) (TI_cT hT) (by omega) (by omega) (F := F) (k := k) (by omega) (by rw [hthN]; omega) hyes
          obtain ⟨M, hM⟩ : ∃ M, ((seenP X (cT σ) (σ 7 s) (σ 8 s) (σ 9 s) s (thN (cT σ)) (F)) ++ (rowS1 X (cT σ) (σ 7 s) (σ 8 s) (σ 9 s) s (F + 1) (k))).length = M := ⟨_, rfl⟩
          rw [hM] at hmn hroom
          obtain ⟨ix, hix⟩ : ∃ ix, 6 * (4 * s + (σ 8 s).toNat) + M = ix := ⟨_, rfl⟩
          have hixe : (((4 * s + (σ 8 s).toNat : Nat) : Int) * 6 + mn).toNat = ix := by omega
          refine x_aload_n 89 C dX3_look_88 rfl rfl rfl ?_
          refine x_getr (j := 7) 92 C rfl (lt79 (by decide)) rfl rfl (by decide) inT3 tb_2_114 rfl dX3_look_89 rfl ?_
          refine x_iload_n 93 C dX3_look_92 rfl rfl rfl ?_
          refine x_bipush 95 C dX3_look_93 rfl rfl ?_
          refine x_imul 96 C dX3_look_95 rfl ?_
          refine x_iload_n 97 C dX3_look_96 rfl rfl rfl ?_
          refine x_iadd 98 C dX3_look_97 rfl ?_
          refine x_iload 100 C dX3_look_98 rfl rfl ?_
          refine x_iast 101 C rfl (lt79 (by decide)) dX3_look_100 rfl (by omega) (by omega) (by omega) ?_
          rw [hixe]
          obtain ⟨s3, hs3⟩ : ∃ s3, up s82 37 ix (k : Int) = s3 := ⟨_, rfl⟩
          rw [hs3]
          have hK3 : Kp 33 38 σ s3 := by rw [← hs3]; exact Kp_up hLI2.1 (by omega)
          have hW3 : CW X tc cl s3 := CW_Kp hW hK3 (by omega)
          have e1b : s3 1 = σ 1 := hK3 1 (by omega) (by omega)
          have e13b : s3 1 3 = σ 1 3 := congrFun e1b 3
          have e4b : s3 4 = σ 4 := hK3 4 (by omega) (by omega)
          have e5b : s3 5 = σ 5 := hK3 5 (by omega) (by omega)
          have e6b : s3 6 = σ 6 := hK3 6 (by omega) (by omega)
          have hnm3 : nmC s3 = nmF ((F + 1 : Nat) : Int) (σ 9 s) (σ 1 1) (σ 2 (whereF (σ 6 k) (σ 3 k) (σ 5 k) (σ 9 s)).toNat) (s : Int) (k : Int) := by
            rw [← (g3 hsh).1]
            unfold nmC
            rw [← hs3, up_row (show (33 : Nat) ≠ 37 by decide)]
          refine x_aload_n 102 C dX3_look_101 rfl rfl rfl ?_
          refine x_getr (j := 8) 105 C rfl (lt79 (by decide)) rfl rfl (by decide) inT3 tb_2_115 rfl dX3_look_102 rfl ?_
          refine x_iload_n 106 C dX3_look_105 rfl rfl rfl ?_
          refine x_bipush 108 C dX3_look_106 rfl rfl ?_
          refine x_imul 109 C dX3_look_108 rfl ?_
          refine x_iload_n 110 C dX3_look_109 rfl rfl rfl ?_
          refine x_iadd 111 C dX3_look_110 rfl ?_
          refine x_aload_n 112 C dX3_look_111 rfl rfl rfl ?_
          refine x_iload 114 C dX3_look_112 rfl rfl ?_
          refine x_iload 116 C dX3_look_114 rfl rfl ?_
          refine x_callVi 119 C dX3_look_116 rfl (c_X3_worthOf (X := X) (t := k) (f := F + 1) hW3 (by rw [e13b]; omega) (by omega)) rfl (lt79 (by decide)) rfl tb_3_116 tb_3_118 tb_0_21 tb_1_18 tb_3_119 (na := 2) (by decide +kernel) rfl ⟨by decide, by decide⟩ rfl (Nat.le_of_ble_eq_true rfl) rfl (fun z116 s116 hz116 hq116 hR116 => ?_)
          obtain ⟨j1, j2⟩ := hq116
          rw [hnm3, e1b, e4b, e5b, e6b] at j2
          refine x_iast 120 C rfl (lt79 (by decide)) dX3_look_119 rfl (by omega) (by omega) (by omega) ?_
          rw [hixe]
          have hj : mn + 1 = (((seenP X (cT σ) (σ 7 s) (σ 8 s) (σ 9 s) s (thN (cT σ)) (F)) ++ (rowS1 X (cT σ) (σ 7 s) (σ 8 s) (σ 9 s) s (F + 1) (k + 1))).length : Int) ∧ LKI X σ s (4 * s + (σ 8 s).toNat) ((seenP X (cT σ) (σ 7 s) (σ 8 s) (σ 9 s) s (thN (cT σ)) (F)) ++ (rowS1 X (cT σ) (σ 7 s) (σ 8 s) (σ 9 s) s (F + 1) (k + 1))) (up s116 38 ix z116) := by
            rw [rowS1_s, hyes, if_pos rfl, ← List.append_assoc]
            refine ⟨by rw [List.length_append, hM]; simp only [List.length_cons, List.length_nil]; omega, ?_⟩
            obtain ⟨a1, a2, a3, a4, a5⟩ := hLI2
            have m34 : s116 34 = s82 34 := (j1 34 (by omega) (by omega)).trans (by rw [← hs3, up_row (by omega)])
            have m35 : s116 35 = s82 35 := (j1 35 (by omega) (by omega)).trans (by rw [← hs3, up_row (by omega)])
            have m36 : s116 36 = s82 36 := (j1 36 (by omega) (by omega)).trans (by rw [← hs3, up_row (by omega)])
            have m37 : s116 37 = up s82 37 ix (k : Int) 37 := (j1 37 (by omega) (by omega)).trans (by rw [← hs3])
            have m38 : s116 38 = s82 38 := (j1 38 (by omega) (by omega)).trans (by rw [← hs3, up_row (by omega)])
            refine ⟨Kp_up (Kp_trans hK3 (Kp_wide j1 (by omega) (by omega))) (by omega), ⟨fun i hi => ?_, fun i hi => ?_⟩, fun t ht => ?_, fun f h1 h2 => ?_, ?_⟩
            · rw [up_r (by omega), m36]; exact a2.1 i hi
            · rw [up_r (by omega), m37, up_i (by omega), up_i (by omega), m38]; exact a2.2 i hi
            · rw [up_r (by omega), m34]; exact a3 t ht
            · rw [up_r (by omega), m35]; exact a4 f h1 h2
            · refine CTN_push a5 (fun i hi => ?_) ?_ ?_
              · rw [hM, hix] at hi
                rw [up_r (by omega), m37, up_i hi, up_i hi, m38]
                exact ⟨rfl, rfl⟩
              · rw [hM, hix, up_r (by omega), m37, up_s]
              · rw [hM, hix, up_s, j2]
                unfold wrth
                rw [hplk, hc6]
                rfl
          refine x_iinc_3 123 C dX3_look_120 rfl rfl ?_
          exact J123 _ _ hj
      exact L47 _ 0 _ _ _ rfl ⟨by omega, rfl, by rw [List.length_append]; simp [rowS1], hLI0⟩
  exact L37 _ 0 _ _ _ _ rfl ⟨by omega, rfl, rfl, hLI⟩

set_option maxHeartbeats 4000000 in
set_option maxRecDepth 100000 in
theorem c_X3_seenBy {l : Launch} {G : Gt} {ρ : Nat → Nat} {tc : Nat} {cl : Nat → Nat} {σ : Sig} {s i : Nat} (hT : TI σ) (hs : (s : Int) < σ 1 8) (hi : i < 6) (hn : 0 ≤ σ 36 (4 * s + (σ 8 s).toNat) ∧ σ 36 (4 * s + (σ 8 s).toNat) ≤ 6) : MX l yX3_seenBy cX3_seenBy 4 (some .int) 0 0 G (NN tc) ρ (shp tc cl) [.ref (ρ 32), .int (iZ (s : Int)), .int (iZ (i : Int))] σ (PE σ (if (i : Int) < σ 36 (4 * s + (σ 8 s).toNat) then σ 37 (6 * (4 * s + (σ 8 s).toNat) + i) else -1)) := by
  refine MX_of [some (.ref (ρ 32)), some (.int (iZ (s : Int))), some (.int (iZ (i : Int))), none] (by decide +kernel) rfl rfl (Nat.le_of_ble_eq_true rfl) ?_
  intro K hKl C T hRng
  subst hKl
  have h8 := hT.2.2.2.1
  have hqs := hT.2.2.2.2 s
  have hss : (s : Int).toNat = s := Int.toNat_natCast s
  have hlt : (((4 * s + (σ 8 s).toNat : Nat) : Int)).toNat = 4 * s + (σ 8 s).toNat := Int.toNat_natCast _
  have hixe : (((4 * s + (σ 8 s).toNat : Nat) : Int) * 6 + (i : Int)).toNat = 6 * (4 * s + (σ 8 s).toNat) + i := by omega
  refine x_iload_n 1 C dX3_seenBy_0 rfl rfl rfl ?_
  refine x_iconst 2 C dX3_seenBy_1 rfl ?_
  refine x_imul 3 C dX3_seenBy_2 rfl ?_
  refine x_aload_n 4 C dX3_seenBy_3 rfl rfl rfl ?_
  refine x_getr (j := 0) 7 C rfl (lt79 (by decide)) rfl rfl (by decide) inT3 tb_2_107 rfl dX3_seenBy_4 rfl ?_
  refine x_getr (j := 10) 10 C rfl (lt79 (by decide)) rfl rfl (by decide) inT9 tb_1_66 rfl dX3_seenBy_7 rfl ?_
  refine x_iload_n 11 C dX3_seenBy_10 rfl rfl rfl ?_
  refine x_iald 12 C rfl (lt79 (by decide)) dX3_seenBy_11 rfl (by omega) (by omega) (fun r11 => ?_)
  rw [hss] at r11 ⊢
  refine x_iadd 13 C dX3_seenBy_12 rfl ?_
  rw [show (s : Int) * 4 + σ 8 s = ((4 * s + (σ 8 s).toNat : Nat) : Int) by omega]
  refine x_istore_n3 14 C dX3_seenBy_13 rfl rfl ?_
  refine x_iload_n 15 C dX3_seenBy_14 rfl rfl rfl ?_
  refine x_aload_n 16 C dX3_seenBy_15 rfl rfl rfl ?_
  refine x_getr (j := 6) 19 C rfl (lt79 (by decide)) rfl rfl (by decide) inT3 tb_2_113 rfl dX3_seenBy_16 rfl ?_
  refine x_iload_n 20 C dX3_seenBy_19 rfl rfl rfl ?_
  refine x_iald 21 C rfl (lt79 (by decide)) dX3_seenBy_20 rfl (by omega) (by omega) (fun r20 => ?_)
  rw [hlt] at r20 ⊢
  refine x_icmp_ge 38 24 C dX3_seenBy_21 rfl rfl (by omega) (by omega) (fun h21 => ?_) (fun h21 => ?_)
  · refine x_iconst 39 C dX3_seenBy_38 rfl ?_
    refine x_iret C T dX3_seenBy_39 ?_
    exact PE_i (by first | rw [if_pos (by omega)] | rw [if_neg (by omega)]) (by omega)
  refine x_aload_n 25 C dX3_seenBy_24 rfl rfl rfl ?_
  refine x_getr (j := 7) 28 C rfl (lt79 (by decide)) rfl rfl (by decide) inT3 tb_2_114 rfl dX3_seenBy_25 rfl ?_
  refine x_iload_n 29 C dX3_seenBy_28 rfl rfl rfl ?_
  refine x_bipush 31 C dX3_seenBy_29 rfl rfl ?_
  refine x_imul 32 C dX3_seenBy_31 rfl ?_
  refine x_iload_n 33 C dX3_seenBy_32 rfl rfl rfl ?_
  refine x_iadd 34 C dX3_seenBy_33 rfl ?_
  refine x_iald 35 C rfl (lt79 (by decide)) dX3_seenBy_34 rfl (by omega) (by omega) (fun r34 => ?_)
  rw [hixe] at r34 ⊢
  refine x_goto 39 C dX3_seenBy_35 rfl ?_
  refine x_iret C T dX3_seenBy_39 ?_
  exact PE_i (by first | rw [if_pos (by omega)] | rw [if_neg (by omega)]) (by omega)
