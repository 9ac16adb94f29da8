set_option maxHeartbeats 4000000 in
set_option maxRecDepth 100000 in
theorem c_X12_best {l : Launch} {G : Gt} {ρ : Nat → Nat} {tc : Nat} {cl : Nat → Nat} {σ : Sig} {X : Nat → RuT} {N : Nat} {v q w : Int} (hW : MW X N σ) (hv : -2147483648 ≤ v ∧ v ≤ 2147483647) (hq : -2147483648 ≤ q ∧ q ≤ 2147483647) (hw : -2147483648 ≤ w ∧ w ≤ 2147483647) : MX l yX12_best cX12_best 4 (some .int) 57 1381 G (NN tc) ρ (shp tc cl) [.ref (ρ 51), .int (iZ v), .int (iZ q), .int (iZ w)] σ (PI (fun z σ' => KX HB σ σ' ∧ KV X N σ' ∧ (((0 ≤ v ∧ v < σ 51 18) ∧ (0 ≤ q ∧ q < 3) ∧ (0 ≤ w ∧ w < 3)) → ∃ bm bw bl, Bst X (cM σ) v.toNat q bm bw bl ∧ z = (if w = 0 then bm else if w = 1 then bw else bl)) ∧ (¬ ((0 ≤ v ∧ v < σ 51 18) ∧ (0 ≤ q ∧ q < 3) ∧ (0 ≤ w ∧ w < 3)) → z = -100000))) := by
  refine MX_of [some (.ref (ρ 51)), some (.int (iZ v)), some (.int (iZ q)), some (.int (iZ w))] (by decide +kernel) rfl rfl (Nat.le_of_ble_eq_true rfl) ?_
  intro K hKl C T hRng
  subst hKl
  have hT := hW.1
  have h3 := hT.2.2.1
  have h8 := hT.2.2.2.1
  have J32 : ∀ (u : Unit), (¬ ((0 ≤ v ∧ v < σ 51 18) ∧ (0 ≤ q ∧ q < 3) ∧ (0 ≤ w ∧ w < 3))) → Ex K G (NN tc) ρ (shp tc cl) 32 [some (.ref (ρ 51)), some (.int (iZ v)), some (.int (iZ q)), some (.int (iZ w))] [] σ := by
    intro u hinv
    have hno := hinv
    refine x_ldcwN (z := -100000) 35 C tb_6_10 (by decide) dX12_best_32 rfl ?_
    refine x_iret C T dX12_best_35 ?_
    refine PI_i (by omega) ?_
    first
      | exact ⟨KX_refl σ, hW.2.2.2, fun h => absurd h hno, fun _ => rfl⟩
      | (refine ⟨k1, k2, fun _ => ⟨_, _, _, by rw [hss]; exact k3, ?_⟩, fun h => absurd ⟨by omega, by omega, by omega⟩ h⟩
         first
           | rw [if_pos hw0]
           | (rw [if_neg hw0, if_pos (by omega)]; done)
           | (rw [if_neg hw0, if_neg (by omega)]; done))
  refine x_aload_n 1 C dX12_best_0 rfl rfl rfl ?_
  refine x_iload_n 2 C dX12_best_1 rfl rfl rfl ?_
  refine x_callVe 5 C dX12_best_2 rfl (c_X12_isOne (by omega) hT) rfl (lt79 (by decide)) rfl tb_5_101 tb_5_103 tb_0_38 tb_1_20 tb_5_104 (na := 1) (by decide +kernel) rfl ⟨by decide, by decide⟩ rfl (Nat.le_of_ble_eq_true rfl) rfl (fun r2 => ?_)
  first
    | refine x_ifb_eq 32 8 C dX12_best_5 rfl rfl (fun h5 => ?_) (fun h5 => ?_)
    | refine x_if_eq 32 8 C dX12_best_5 rfl rfl (by omega) (fun h5 => ?_) (fun h5 => ?_)
  · exact J32 () (by omega)
  refine x_iload_n 9 C dX12_best_8 rfl rfl rfl ?_
  refine x_i2l 10 C dX12_best_9 rfl (by omega) ?_
  refine x_lconst 11 C dX12_best_10 rfl 0 rfl ?_
  refine x_ldc2 (z := 2) 14 C tb_6_30 dX12_best_11 rfl ?_
  refine x_callSe 17 C dX12_best_14 rfl (c_X12_in (by omega) (by omega) (by omega)) tb_5_69 tb_5_70 tb_1_20 tb_5_71 (na := 3) (by decide +kernel) rfl ⟨by decide, by decide⟩ rfl (Nat.le_of_ble_eq_true rfl) rfl (fun r14 => ?_)
  first
    | refine x_ifb_eq 32 20 C dX12_best_17 rfl rfl (fun h17 => ?_) (fun h17 => ?_)
    | refine x_if_eq 32 20 C dX12_best_17 rfl rfl (by omega) (fun h17 => ?_) (fun h17 => ?_)
  · exact J32 () (by omega)
  refine x_iload_n 21 C dX12_best_20 rfl rfl rfl ?_
  refine x_i2l 22 C dX12_best_21 rfl (by omega) ?_
  refine x_lconst 23 C dX12_best_22 rfl 0 rfl ?_
  refine x_ldc2 (z := 2) 26 C tb_6_30 dX12_best_23 rfl ?_
  refine x_callSe 29 C dX12_best_26 rfl (c_X12_in (by omega) (by omega) (by omega)) tb_5_69 tb_5_70 tb_1_20 tb_5_71 (na := 3) (by decide +kernel) rfl ⟨by decide, by decide⟩ rfl (Nat.le_of_ble_eq_true rfl) rfl (fun r26 => ?_)
  first
    | refine x_ifb_ne 36 32 C dX12_best_29 rfl rfl (fun h29 => ?_) (fun h29 => ?_)
    | refine x_if_ne 36 32 C dX12_best_29 rfl rfl (by omega) (fun h29 => ?_) (fun h29 => ?_)
  rotate_left
  · exact J32 () (by omega)
  obtain ⟨s, rfl⟩ : ∃ s : Nat, v = (s : Int) := ⟨v.toNat, by omega⟩
  have hss : (s : Int).toNat = s := Int.toNat_natCast s
  refine x_aload_n 37 C dX12_best_36 rfl rfl rfl ?_
  refine x_iload_n 38 C dX12_best_37 rfl rfl rfl ?_
  refine x_iload_n 39 C dX12_best_38 rfl rfl rfl ?_
  refine x_callVv 42 C dX12_best_39 rfl (c_X12_seeks (X := X) (N := N) (s := s) (q := q) hW (by omega) (by omega)) rfl (lt79 (by decide)) rfl tb_6_31 tb_6_33 tb_0_65 tb_1_20 tb_6_34 (na := 2) (by decide +kernel) rfl ⟨by decide, by decide⟩ rfl (Nat.le_of_ble_eq_true rfl) rfl (fun s39 hq39 hR39 => ?_)
  obtain ⟨k1, k2, k3⟩ := hq39
  have hbi := Bst_in (TI_cM hW.1) k3
  refine x_iload_n 43 C dX12_best_42 rfl rfl rfl ?_
  refine x_if_ne 53 46 C dX12_best_43 rfl rfl (by omega) (fun h43 => ?_) (fun h43 => ?_)
  rotate_left
  · have hw0 : w = 0 := h43
    refine x_aload_n 47 C dX12_best_46 rfl rfl rfl ?_
    refine x_geti (j := 41) 50 C rfl (lt79 (by decide)) rfl rfl (by decide) inT12 tb_4_175 rfl dX12_best_47 rfl (fun r47 => ?_)
    refine x_goto 69 C dX12_best_50 rfl ?_
    refine x_iret C T dX12_best_69 ?_
    refine PI_i (by omega) ?_
    first
      | exact ⟨KX_refl σ, hW.2.2.2, fun h => absurd h hno, fun _ => rfl⟩
      | (refine ⟨k1, k2, fun _ => ⟨_, _, _, by rw [hss]; exact k3, ?_⟩, fun h => absurd ⟨by omega, by omega, by omega⟩ h⟩
         first
           | rw [if_pos hw0]
           | (rw [if_neg hw0, if_pos (by omega)]; done)
           | (rw [if_neg hw0, if_neg (by omega)]; done))
  have hw0 : w ≠ 0 := h43
  refine x_iload_n 54 C dX12_best_53 rfl rfl rfl ?_
  refine x_iconst 55 C dX12_best_54 rfl ?_
  refine x_icmp_ne 65 58 C dX12_best_55 rfl rfl (by omega) (by omega) (fun h55 => ?_) (fun h55 => ?_)
  · refine x_aload_n 66 C dX12_best_65 rfl rfl rfl ?_
    refine x_geti (j := 43) 69 C rfl (lt79 (by decide)) rfl rfl (by decide) inT12 tb_4_177 rfl dX12_best_66 rfl (fun r66 => ?_)
    refine x_iret C T dX12_best_69 ?_
    refine PI_i (by omega) ?_
    first
      | exact ⟨KX_refl σ, hW.2.2.2, fun h => absurd h hno, fun _ => rfl⟩
      | (refine ⟨k1, k2, fun _ => ⟨_, _, _, by rw [hss]; exact k3, ?_⟩, fun h => absurd ⟨by omega, by omega, by omega⟩ h⟩
         first
           | rw [if_pos hw0]
           | (rw [if_neg hw0, if_pos (by omega)]; done)
           | (rw [if_neg hw0, if_neg (by omega)]; done))
  refine x_aload_n 59 C dX12_best_58 rfl rfl rfl ?_
  refine x_geti (j := 42) 62 C rfl (lt79 (by decide)) rfl rfl (by decide) inT12 tb_4_176 rfl dX12_best_59 rfl (fun r59 => ?_)
  refine x_goto 69 C dX12_best_62 rfl ?_
  refine x_iret C T dX12_best_69 ?_
  refine PI_i (by omega) ?_
  first
    | exact ⟨KX_refl σ, hW.2.2.2, fun h => absurd h hno, fun _ => rfl⟩
    | (refine ⟨k1, k2, fun _ => ⟨_, _, _, by rw [hss]; exact k3, ?_⟩, fun h => absurd ⟨by omega, by omega, by omega⟩ h⟩
       first
         | rw [if_pos hw0]
         | (rw [if_neg hw0, if_pos (by omega)]; done)
         | (rw [if_neg hw0, if_neg (by omega)]; done))

set_option maxHeartbeats 4000000 in
set_option maxRecDepth 100000 in
theorem c_X12_turn {l : Launch} {G : Gt} {ρ : Nat → Nat} {tc : Nat} {cl : Nat → Nat} {σ : Sig} {X : Nat → RuT} {N : Nat} {v : Int} (hW : MW X N σ) (hv : -2147483648 ≤ v ∧ v ≤ 2147483647) : MX l yX12_turn cX12_turn 2 (some .int) 57 1381 G (NN tc) ρ (shp tc cl) [.ref (ρ 51), .int (iZ v)] σ (PI (fun z σ' => KV X N σ' ∧ ((0 ≤ v ∧ v < σ 51 18) → ∃ bm bw, Bst X (cM σ) v.toNat 2 bm bw z ∧ KX HB (up (up σ 62 v.toNat bm) 61 v.toNat bw) σ') ∧ (¬ (0 ≤ v ∧ v < σ 51 18) → z = -100000 ∧ KX HB σ σ'))) := by
  refine MX_of [some (.ref (ρ 51)), some (.int (iZ v))] (by decide +kernel) rfl rfl (Nat.le_of_ble_eq_true rfl) ?_
  intro K hKl C T hRng
  subst hKl
  have hT := hW.1
  have h3 := hT.2.2.1
  have h8 := hT.2.2.2.1
  refine x_aload_n 1 C dX12_turn_0 rfl rfl rfl ?_
  refine x_iload_n 2 C dX12_turn_1 rfl rfl rfl ?_
  refine x_callVe 5 C dX12_turn_2 rfl (c_X12_isOne (by omega) hT) rfl (lt79 (by decide)) rfl tb_5_101 tb_5_103 tb_0_38 tb_1_20 tb_5_104 (na := 1) (by decide +kernel) rfl ⟨by decide, by decide⟩ rfl (Nat.le_of_ble_eq_true rfl) rfl (fun r2 => ?_)
  first
    | refine x_ifb_ne 12 8 C dX12_turn_5 rfl rfl (fun h5 => ?_) (fun h5 => ?_)
    | refine x_if_ne 12 8 C dX12_turn_5 rfl rfl (by omega) (fun h5 => ?_) (fun h5 => ?_)
  rotate_left
  · refine x_ldcwN (z := -100000) 11 C tb_6_10 (by decide) dX12_turn_8 rfl ?_
    refine x_iret C T dX12_turn_11 ?_
    refine PI_i (by omega) ?_
    first
      | exact ⟨hW.2.2.2, fun h => absurd h (by omega), fun _ => ⟨rfl, KX_refl σ⟩⟩
      | (rw [hss]
         exact ⟨hVu, fun _ => ⟨_, _, by rw [u43]; exact k3, hKu⟩, fun h => absurd ⟨by omega, by omega⟩ h⟩)
  obtain ⟨s, rfl⟩ : ∃ s : Nat, v = (s : Int) := ⟨v.toNat, by omega⟩
  have hss : (s : Int).toNat = s := Int.toNat_natCast s
  refine x_aload_n 13 C dX12_turn_12 rfl rfl rfl ?_
  refine x_iload_n 14 C dX12_turn_13 rfl rfl rfl ?_
  refine x_iconst 15 C dX12_turn_14 rfl ?_
  refine x_callVv 18 C dX12_turn_15 rfl (c_X12_seeks (X := X) (N := N) (s := s) (q := 2) hW (by omega) (by omega)) rfl (lt79 (by decide)) rfl tb_6_31 tb_6_33 tb_0_65 tb_1_20 tb_6_34 (na := 2) (by decide +kernel) rfl ⟨by decide, by decide⟩ rfl (Nat.le_of_ble_eq_true rfl) rfl (fun s15 hq15 hR15 => ?_)
  obtain ⟨k1, k2, k3⟩ := hq15
  have hbi := Bst_in (TI_cM hW.1) k3
  refine x_aload_n 19 C dX12_turn_18 rfl rfl rfl ?_
  refine x_getr (j := 16) 22 C rfl (lt79 (by decide)) rfl rfl (by decide) inT12 tb_4_150 rfl dX12_turn_19 rfl ?_
  refine x_iload_n 23 C dX12_turn_22 rfl rfl rfl ?_
  refine x_aload_n 24 C dX12_turn_23 rfl rfl rfl ?_
  refine x_geti (j := 41) 27 C rfl (lt79 (by decide)) rfl rfl (by decide) inT12 tb_4_175 rfl dX12_turn_24 rfl (fun r24 => ?_)
  refine x_iast 28 C rfl (lt79 (by decide)) dX12_turn_27 rfl (by omega) (by omega) (by omega) ?_
  refine x_aload_n 29 C dX12_turn_28 rfl rfl rfl ?_
  refine x_getr (j := 15) 32 C rfl (lt79 (by decide)) rfl rfl (by decide) inT12 tb_4_149 rfl dX12_turn_29 rfl ?_
  refine x_iload_n 33 C dX12_turn_32 rfl rfl rfl ?_
  refine x_aload_n 34 C dX12_turn_33 rfl rfl rfl ?_
  refine x_geti (j := 42) 37 C rfl (lt79 (by decide)) rfl rfl (by decide) inT12 tb_4_176 rfl dX12_turn_34 rfl (fun r34 => ?_)
  refine x_iast 38 C rfl (lt79 (by decide)) dX12_turn_37 rfl (by omega) (by omega) (by omega) ?_
  rw [hss, show (up s15 62 s (s15 51 41)) 51 42 = s15 51 42 from up_r (by omega)]
  obtain ⟨u, hue⟩ : ∃ u, up (up s15 62 s (s15 51 41)) 61 s (s15 51 42) = u := ⟨_, rfl⟩
  rw [hue]
  have u43 : u 51 43 = s15 51 43 := by rw [← hue, up_r (by omega), up_r (by omega)]
  have hKu : KX HB (up (up σ 62 s (s15 51 41)) 61 s (s15 51 42)) u := by
    rw [← hue]
    refine ⟨fun a b c1 c2 c3 c4 c5 => ?_, fun b c1 c2 => ?_⟩
    · have hk := k1.1 a b c1 c2 c3 c4 c5
      simp only [up]
      (repeat' split) <;> first | rfl | exact hk | omega
    · rw [up_r (by omega), up_r (by omega), up_r (by omega), up_r (by omega)]
      exact k1.2 b c1 c2
  have hVu : KV X N u := by rw [← hue]; exact KV_keep k2 (by rw [up_row (by omega), up_row (by omega)]) (by rw [up_row (by omega), up_row (by omega)])
  refine x_aload_n 39 C dX12_turn_38 rfl rfl rfl ?_
  refine x_geti (j := 43) 42 C rfl (lt79 (by decide)) rfl rfl (by decide) inT12 tb_4_177 rfl dX12_turn_39 rfl (fun r39 => ?_)
  refine x_iret C T dX12_turn_42 ?_
  refine PI_i (by omega) ?_
  first
    | exact ⟨hW.2.2.2, fun h => absurd h (by omega), fun _ => ⟨rfl, KX_refl σ⟩⟩
    | (rw [hss]
       exact ⟨hVu, fun _ => ⟨_, _, by rw [u43]; exact k3, hKu⟩, fun h => absurd ⟨by omega, by omega⟩ h⟩)

set_option maxHeartbeats 4000000 in
set_option maxRecDepth 100000 in
theorem c_X12_rest {l : Launch} {G : Gt} {ρ : Nat → Nat} {tc : Nat} {cl : Nat → Nat} {σ : Sig} {X : Nat → RuT} {N : Nat} (hW : MW X N σ) : MX l yX12_rest cX12_rest 3 (some .int) 57 1381 G (NN tc) ρ (shp tc cl) [.ref (ρ 51)] σ (PI (fun z σ' => KX HB σ σ' ∧ KV X N σ' ∧ ((z = 1 ∧ Rst X (cM σ)) ∨ (z = 0 ∧ ¬ Rst X (cM σ))))) := by
  refine MX_of [some (.ref (ρ 51)), none, none] (by decide +kernel) rfl rfl (Nat.le_of_ble_eq_true rfl) ?_
  intro K hKl C T hRng
  subst hKl
  have hT := hW.1
  have h8 := hT.2.2.2.1
  have hTc := TI_cM hT
  refine x_iconst 1 C dX12_rest_0 rfl ?_
  refine x_istore_n1 2 C dX12_rest_1 rfl rfl ?_
  have L2 : ∀ (mz : Nat) (s : Nat) (y : Int) (s1 : Sig) (x2 : Option Value), mz = 6 - s → ((s : Int) ≤ σ 51 18 ∧ y = s ∧ KX HB σ s1 ∧ KV X N s1 ∧ ∀ a, a < s → ∀ bm bw bl, Bst X (cM σ) a 2 bm bw bl → bl ≤ leftT X (cM σ) a) → Ex K G (NN tc) ρ (shp tc cl) 2 [some (.ref (ρ 51)), some (.int (iZ y)), x2] [] s1 := by
    intro mz
    induction mz using Nat.strongRecOn with
    | ind mz ih =>
      intro s y s1 x2 hmz hinv
      obtain ⟨hs, rfl, hX1, hV1, hd⟩ := hinv
      obtain ⟨hW_s1, hu_s1⟩ := KX_MW HB_ok hX1 hV1 hW
      have f18_s1 : s1 51 18 = σ 51 18 := hX1.2 18 (by omega) (fun h => by unfold HB at h; omega)
      refine x_iload_n 3 C dX12_rest_2 rfl rfl rfl ?_
      refine x_aload_n 4 C dX12_rest_3 rfl rfl rfl ?_
      refine x_geti (j := 18) 7 C rfl (lt79 (by decide)) rfl rfl (by decide) inT12 tb_4_152 rfl dX12_rest_4 rfl (fun r4 => ?_)
      refine x_icmp_ge 42 10 C dX12_rest_7 rfl rfl (by omega) (by omega) (fun h7 => ?_) (fun h7 => ?_)
      · refine x_iconst 43 C dX12_rest_42 rfl ?_
        refine x_iret C T dX12_rest_43 ?_
        refine PI_i (by omega) ?_
        first
          | exact ⟨hX1, hV1, Or.inl ⟨rfl, fun a ha => hd a (by rw [slN_M] at ha; omega)⟩⟩
          | (refine ⟨hX3, k2, Or.inr ⟨rfl, fun h => ?_⟩⟩
             have := h s (by rw [slN_M]; omega) _ _ _ k3
             omega)
      refine x_aload_n 11 C dX12_rest_10 rfl rfl rfl ?_
      refine x_callVv 14 C dX12_rest_11 rfl (c_X12_morning (X := X) (N := N) hW_s1) rfl (lt79 (by decide)) rfl tb_5_234 tb_5_236 tb_0_60 tb_1_20 tb_5_237 (na := 0) (by decide +kernel) rfl ⟨by decide, by decide⟩ rfl (Nat.le_of_ble_eq_true rfl) rfl (fun s11 hq11 hR11 => ?_)
      obtain ⟨hM_11, hV_11, hL_11, hD_11⟩ := hq11
      have hW_11 := KM_MW hM_11 hV_11 hW_s1
      have e18_11 : s11 51 18 = σ 51 18 := (hM_11.2 18 (by omega)).trans f18_s1
      have e13_11 : s11 51 13 = s1 51 13 := hM_11.2 13 (by omega)
      have e62_11 : s11 62 = s1 62 := KM_row hM_11 (by omega) (by omega) (by omega) (by omega)
      refine x_aload_n 15 C dX12_rest_14 rfl rfl rfl ?_
      refine x_iload_n 16 C dX12_rest_15 rfl rfl rfl ?_
      refine x_callVi 19 C dX12_rest_16 rfl (c_X12_leftOf (X := X) (N := N) (s := s) (d := hadT X (cM s1) s) hW_11 (by omega) (hD_11 s (by omega)).1 (by rw [e13_11]; exact HDm_q hW_s1.1 hD_11 (by omega))) rfl (lt79 (by decide)) rfl tb_6_15 tb_6_17 tb_0_63 tb_1_20 tb_6_18 (na := 1) (by decide +kernel) rfl ⟨by decide, by decide⟩ rfl (Nat.le_of_ble_eq_true rfl) rfl (fun z16 s16 hz16 hq16 hR16 => ?_)
      obtain ⟨hf_16, hV_16, jj_16⟩ := hq16
      rw [KM_cM hM_11, e62_11] at jj_16
      have j_16 : z16 = leftT X (cM s1) s := jj_16
      rw [hu_s1] at j_16
      have hM_16 := KM_trans hM_11 (FRk_KM hf_16)
      have hW_16 := KM_MW hM_16 hV_16 hW_s1
      have hD_16 := HDm_row hD_11 (FRk_row hf_16 (a := 69) (by omega) (by omega) (by omega) (by omega)) (FRk_row hf_16 (a := 70) (by omega) (by omega) (by omega) (by omega))
      have e18_16 : s16 51 18 = σ 51 18 := (hM_16.2 18 (by omega)).trans f18_s1
      have e13_16 : s16 51 13 = s1 51 13 := hM_16.2 13 (by omega)
      have e62_16 : s16 62 = s1 62 := KM_row hM_16 (by omega) (by omega) (by omega) (by omega)
      refine x_istore_n2 20 C dX12_rest_19 rfl rfl ?_
      refine x_aload_n 21 C dX12_rest_20 rfl rfl rfl ?_
      refine x_iload_n 22 C dX12_rest_21 rfl rfl rfl ?_
      refine x_iconst 23 C dX12_rest_22 rfl ?_
      refine x_callVv 26 C dX12_rest_23 rfl (c_X12_seeks (X := X) (N := N) (s := s) (q := 2) hW_16 (by omega) (by omega)) rfl (lt79 (by decide)) rfl tb_6_31 tb_6_33 tb_0_65 tb_1_20 tb_6_34 (na := 2) (by decide +kernel) rfl ⟨by decide, by decide⟩ rfl (Nat.le_of_ble_eq_true rfl) rfl (fun s23 hq23 hR23 => ?_)
      obtain ⟨k1, k2, k3⟩ := hq23
      rw [KM_cM hM_16, hu_s1] at k3
      have hbi := Bst_in hTc k3
      have hli := leftT_in (X := X) (s := s) hTc
      have hX3 := KX_trans (KX_KM hX1 hM_16) k1
      refine x_aload_n 27 C dX12_rest_26 rfl rfl rfl ?_
      refine x_geti (j := 43) 30 C rfl (lt79 (by decide)) rfl rfl (by decide) inT12 tb_4_177 rfl dX12_rest_27 rfl (fun r27 => ?_)
      refine x_iload_n 31 C dX12_rest_30 rfl rfl rfl ?_
      refine x_icmp_le 36 34 C dX12_rest_31 rfl rfl (by omega) (by omega) (fun h31 => ?_) (fun h31 => ?_)
      · refine x_iinc_1 39 C dX12_rest_36 rfl rfl ?_
        refine x_goto 2 C dX12_rest_39 rfl ?_
        refine ih _ (by omega) (s + 1) _ _ _ rfl ⟨by omega, by omega, hX3, k2, fun a ha bm bw bl hB => ?_⟩
        by_cases has : a = s
        · subst has
          have := Bst_uni hB k3
          omega
        · exact hd a (by omega) bm bw bl hB
      refine x_iconst 35 C dX12_rest_34 rfl ?_
      refine x_iret C T dX12_rest_35 ?_
      refine PI_i (by omega) ?_
      first
        | exact ⟨hX1, hV1, Or.inl ⟨rfl, fun a ha => hd a (by rw [slN_M] at ha; omega)⟩⟩
        | (refine ⟨hX3, k2, Or.inr ⟨rfl, fun h => ?_⟩⟩
           have := h s (by rw [slN_M]; omega) _ _ _ k3
           omega)
  exact L2 _ 0 _ _ _ rfl ⟨by omega, rfl, KX_refl σ, hW.2.2.2, fun a ha => absurd ha (by omega)⟩

section ROWS
variable {K : Mk} {G : Gt} {N : Nat} {ρ : Nat → Nat} {sh : Nat → Shc} {own : String} {cc : ByteArray} {nL fr lo : Nat} {pc n : Nat} {lv : List (Option Value)} {st : List Value} {σ : Sig}
theorem x_lstore_12 {x : Int64} {a0 a1 a2 a3 a4 a5 a6 a7 a8 a9 a10 a11 z y : Option Value} {t : List (Option Value)} (n : Nat) (C : Cx K G N ρ own cc nL fr lo) (d : decode cc pc = .ok (.lstore 12, 2)) (hn : pc + 2 = n) (hp : np a11 = true) (k : Ex K G N ρ sh n (a0 :: a1 :: a2 :: a3 :: a4 :: a5 :: a6 :: a7 :: a8 :: a9 :: a10 :: a11 :: some (.long x) :: none :: t) (st) (σ)) : Ex K G N ρ sh pc (a0 :: a1 :: a2 :: a3 :: a4 :: a5 :: a6 :: a7 :: a8 :: a9 :: a10 :: a11 :: z :: y :: t) (.long x :: st) (σ) := by
  obtain ⟨p, l, e, R, s, m, args, below, meth, c, cells, slots, Q⟩ := K
  obtain ⟨hx, hb, hml, hown, hts, hlk, hK, hI, hO, hfr, hlo, hce, hsl, hN2⟩ := C
  subst hn; intro hR H locs ls hP hS hl
  refine lv_lstore hx hb d hl (by simp only [List.length_cons]; omega) rfl (fun ls' hl' => k hR H locs ls' hP hS ?_)
  exact dn_setl (lv := a0 :: a1 :: a2 :: a3 :: a4 :: a5 :: a6 :: a7 :: a8 :: a9 :: a10 :: a11 :: z :: y :: t) (by simpa only [List.length_cons] using hl') rfl (fun j hj => ⟨a11, (by cases (show j = 11 by omega); rfl), hp⟩)
end ROWS
/-! fogs, by the model -/
def HFo (a b : Nat) : Prop := a = 51 ∧ b = 8
theorem KX_fog {X : Nat → RuT} {N : Nat} {σ s1 : Sig} {f : Int} (h : KX HFo σ s1) (hV : KV X N s1) (hW : MW X N σ) (hf : 0 ≤ f ∧ f ≤ 9) : MW X N (up s1 51 8 f) ∧ cM (up s1 51 8 f) = up (cM σ) 1 1 f := by
  have hr : ∀ a, 52 ≤ a → a ≤ 63 → s1 a = σ a := fun a h1 h2 => KX_row h (by omega) (by omega) (by omega) (by omega) (fun b hb => by unfold HFo at hb; omega)
  have h51 : ∀ b, b < 19 → b ≠ 8 → s1 51 b = σ 51 b := fun b hb h8 => h.2 b (Or.inl hb) (fun hh => by unfold HFo at hh; omega)
  have hrr : ∀ a, 55 ≤ a → a ≤ 63 → (up s1 51 8 f) a = (up σ 51 8 f) a := fun a h1 h2 => by rw [up_row (by omega), up_row (by omega)]; exact hr a (by omega) h2
  have hff : ∀ b, b = 4 ∨ b = 8 ∨ b = 13 ∨ b = 18 → (up s1 51 8 f) 51 b = (up σ 51 8 f) 51 b := fun b hb => by
    by_cases h8 : b = 8
    · subst h8; rw [up_s, up_s]
    · rw [up_i h8, up_i h8]; exact h51 b (by omega) h8
  refine ⟨⟨MI_keep hrr hff (MI_f hW.1 hf), HM_keep hW.2.1 (by rw [up_row (by omega)]; exact hr 52 (by omega) (by omega)) (by rw [up_row (by omega)]; exact hr 53 (by omega) (by omega)), by rw [up_i (by omega), h51 4 (by omega) (by omega)]; exact hW.2.2.1, KV_keep hV (up_row (by omega)) (up_row (by omega))⟩, ?_⟩
  rw [← cM_up8]
  unfold cM
  rw [mT_keep hrr hff]
set_option maxHeartbeats 4000000 in
set_option maxRecDepth 100000 in
theorem c_X12_drawn {l : Launch} {G : Gt} {ρ : Nat → Nat} {tc : Nat} {cl : Nat → Nat} {σ : Sig} {X : Nat → RuT} {N : Nat} {v : Int} (hW : MW X N σ) (hv : -2147483648 ≤ v ∧ v ≤ 2147483647) : MX l yX12_drawn cX12_drawn 4 (some .int) 56 1353 G (NN tc) ρ (shp tc cl) [.ref (ρ 51), .int (iZ v)] σ (PI (fun z σ' => KM σ σ' ∧ KV X N σ' ∧ z = rDrawn X (cM σ) v)) := by
  refine MX_of [some (.ref (ρ 51)), some (.int (iZ v)), none, none] (by decide +kernel) rfl rfl (Nat.le_of_ble_eq_true rfl) ?_
  intro K hKl C T hRng
  subst hKl
  have hT := hW.1
  have hg := hT.1
  have hf := fogF_in v
  have hh := hsf_in (v * 1103515245 + 12345)
  have hall := allT_in (X := X) (TI_up1 (v := fogF v) (TI_cM hT) hf)
  refine x_aload_n 1 C dX12_drawn_0 rfl rfl rfl ?_
  refine x_geti (j := 8) 4 C rfl (lt79 (by decide)) rfl rfl (by decide) inT12 tb_4_142 rfl dX12_drawn_1 rfl (fun r1 => ?_)
  refine x_istore_n2 5 C dX12_drawn_4 rfl rfl ?_
  refine x_aload_n 6 C dX12_drawn_5 rfl rfl rfl ?_
  refine x_iload_n 7 C dX12_drawn_6 rfl rfl rfl ?_
  refine x_ldcw (z := 1103515245) 10 C tb_6_82 dX12_drawn_7 rfl ?_
  refine x_imul 11 C dX12_drawn_10 rfl ?_
  refine x_sipush 14 C dX12_drawn_11 rfl rfl ?_
  refine x_iadd 15 C dX12_drawn_14 rfl ?_
  refine x_bipush 17 C dX12_drawn_15 rfl rfl ?_
  refine x_iushr (hsf (v * 1103515245 + 12345)) 18 C dX12_drawn_17 rfl ((iZ_of _).symm) ?_
  refine x_bipush 20 C dX12_drawn_18 rfl rfl ?_
  refine x_irem 21 C dX12_drawn_20 rfl (by omega) (by omega) ?_
  refine x_puti (j := 8) tyX12 24 C rfl (lt79 (by decide)) rfl rfl (by decide) inT12 tyX12_ok nmX12 tb_4_142 rfl rfl rfl dX12_drawn_21 rfl (by omega) ?_
  rw [show hsf (v * 1103515245 + 12345) % 10 = fogF v from rfl]
  obtain ⟨u, hue⟩ : ∃ u, up σ 51 8 (fogF v) = u := ⟨_, rfl⟩
  rw [hue]
  obtain ⟨hW_u, hu_u⟩ := KX_fog (KX_refl σ) hW.2.2.2 hW hf
  rw [hue] at hW_u hu_u
  have f18_u : u 51 18 = σ 51 18 := by rw [← hue, up_i (by omega)]
  have hXu : KX HFo σ u := by rw [← hue]; exact KX_up (KX_refl σ) ⟨rfl, rfl⟩
  refine x_aload_n 25 C dX12_drawn_24 rfl rfl rfl ?_
  refine x_callVv 28 C dX12_drawn_25 rfl (c_X12_morning (X := X) (N := N) hW_u) rfl (lt79 (by decide)) rfl tb_5_234 tb_5_236 tb_0_60 tb_1_20 tb_5_237 (na := 0) (by decide +kernel) rfl ⟨by decide, by decide⟩ rfl (Nat.le_of_ble_eq_true rfl) rfl (fun s25 hq25 hR25 => ?_)
  obtain ⟨hM_25, hV_25, hL_25, hD_25⟩ := hq25
  have hW_25 := KM_MW hM_25 hV_25 hW_u
  have e18_25 : s25 51 18 = σ 51 18 := (hM_25.2 18 (by omega)).trans f18_u
  have e13_25 : s25 51 13 = u 51 13 := hM_25.2 13 (by omega)
  have e62_25 : s25 62 = u 62 := KM_row hM_25 (by omega) (by omega) (by omega) (by omega)
  refine x_aload_n 29 C dX12_drawn_28 rfl rfl rfl ?_
  refine x_callVi 32 C dX12_drawn_29 rfl (c_X12_allLeft (X := X) (N := N) hW_25 (HDm_self hD_25 hM_25)) rfl (lt79 (by decide)) rfl tb_6_11 tb_6_13 tb_0_62 tb_1_20 tb_6_14 (na := 0) (by decide +kernel) rfl ⟨by decide, by decide⟩ rfl (Nat.le_of_ble_eq_true rfl) rfl (fun z29 s29 hz29 hq29 hR29 => ?_)
  obtain ⟨hf_29, hV_29, jj_29⟩ := hq29
  rw [KM_cM hM_25, hu_u] at jj_29
  have j_29 := jj_29
  have hM_29 := KM_trans hM_25 (FRk_KM hf_29)
  have hW_29 := KM_MW hM_29 hV_29 hW_u
  refine x_istore_n3 33 C dX12_drawn_32 rfl rfl ?_
  refine x_aload_n 34 C dX12_drawn_33 rfl rfl rfl ?_
  refine x_iload_n 35 C dX12_drawn_34 rfl rfl rfl ?_
  refine x_puti (j := 8) tyX12 38 C rfl (lt79 (by decide)) rfl rfl (by decide) inT12 tyX12_ok nmX12 tb_4_142 rfl rfl rfl dX12_drawn_35 rfl (by omega) ?_
  refine x_iload_n 39 C dX12_drawn_38 rfl rfl rfl ?_
  refine x_iret C T dX12_drawn_39 ?_
  refine PI_i (by omega) ⟨?_, KV_keep hV_29 (up_row (by omega)) (up_row (by omega)), j_29⟩
  refine KX_KM' (KX_up (KX_KM hXu hM_29) ⟨rfl, rfl⟩) (fun a b h => ?_)
  obtain ⟨rfl, rfl⟩ := h
  exact up_s

set_option maxHeartbeats 4000000 in
set_option maxRecDepth 100000 in
theorem c_X12_chance {l : Launch} {G : Gt} {ρ : Nat → Nat} {tc : Nat} {cl : Nat → Nat} {σ : Sig} {X : Nat → RuT} {N : Nat} {v n w p : Int} (hW : MW X N σ) (hv : -2147483648 ≤ v ∧ v ≤ 2147483647) (hn : -2147483648 ≤ n ∧ n ≤ 2147483647) (hs : -2147483648 ≤ w ∧ w ≤ 2147483647) (hp : -2147483648 ≤ p ∧ p ≤ 2147483647) : MX l yX12_chance cX12_chance 14 (some .long) 56 1353 G (NN tc) ρ (shp tc cl) [.ref (ρ 51), .int (iZ v), .int (iZ n), .int (iZ w), .int (iZ p)] σ (PL (fun z σ' => KM σ σ' ∧ KV X N σ' ∧ z = rChance X (cM σ) v n w p)) := by
  refine MX_of [some (.ref (ρ 51)), some (.int (iZ v)), some (.int (iZ n)), some (.int (iZ w)), some (.int (iZ p)), none, none, none, none, none, none, none, none, none] (by decide +kernel) rfl rfl (Nat.le_of_ble_eq_true rfl) ?_
  intro K hKl C T hRng
  subst hKl
  have hT := hW.1
  have h3 := hT.2.2.1
  have h8 := hT.2.2.2.1
  have hg := hT.1
  have J31 : ∀ (u : Unit), (¬ ((1 ≤ n ∧ n ≤ 20) ∧ (0 ≤ w ∧ w < σ 51 18) ∧ (p = 0 ∨ p = 1))) → Ex K G (NN tc) ρ (shp tc cl) 31 [some (.ref (ρ 51)), some (.int (iZ v)), some (.int (iZ n)), some (.int (iZ w)), some (.int (iZ p)), none, none, none, none, none, none, none, none, none] [] σ := by
    intro u hinv
    have hno := hinv
    refine x_ldc2N (z := -4611686018427387904) 34 C tb_6_88 (by decide) dX12_chance_31 rfl ?_
    refine x_lret C T dX12_chance_34 ?_
    first
      | (refine ⟨_, rfl, KM_refl σ, hW.2.2.2, ?_⟩
         unfold rChance
         rw [if_neg (by rw [cM_18]; omega)])
      | exact ⟨_, rfl, hKf, hVf, hz⟩
  refine x_iload_n 1 C dX12_chance_0 rfl rfl rfl ?_
  refine x_i2l 2 C dX12_chance_1 rfl (by omega) ?_
  refine x_lconst 3 C dX12_chance_2 rfl 1 rfl ?_
  refine x_ldc2 (z := 20) 6 C tb_6_87 dX12_chance_3 rfl ?_
  refine x_callSe 9 C dX12_chance_6 rfl (c_X12_in (by omega) (by omega) (by omega)) tb_5_69 tb_5_70 tb_1_20 tb_5_71 (na := 3) (by decide +kernel) rfl ⟨by decide, by decide⟩ rfl (Nat.le_of_ble_eq_true rfl) rfl (fun r6 => ?_)
  first
    | refine x_ifb_eq 31 12 C dX12_chance_9 rfl rfl (fun h9 => ?_) (fun h9 => ?_)
    | refine x_if_eq 31 12 C dX12_chance_9 rfl rfl (by omega) (fun h9 => ?_) (fun h9 => ?_)
  · exact J31 () (by omega)
  refine x_aload_n 13 C dX12_chance_12 rfl rfl rfl ?_
  refine x_iload_n 14 C dX12_chance_13 rfl rfl rfl ?_
  refine x_callVe 17 C dX12_chance_14 rfl (c_X12_isOne (by omega) hT) rfl (lt79 (by decide)) rfl tb_5_101 tb_5_103 tb_0_38 tb_1_20 tb_5_104 (na := 1) (by decide +kernel) rfl ⟨by decide, by decide⟩ rfl (Nat.le_of_ble_eq_true rfl) rfl (fun r14 => ?_)
  first
    | refine x_ifb_eq 31 20 C dX12_chance_17 rfl rfl (fun h17 => ?_) (fun h17 => ?_)
    | refine x_if_eq 31 20 C dX12_chance_17 rfl rfl (by omega) (fun h17 => ?_) (fun h17 => ?_)
  · exact J31 () (by omega)
  refine x_iload 22 C dX12_chance_20 rfl rfl ?_
  refine x_i2l 23 C dX12_chance_22 rfl (by omega) ?_
  refine x_lconst 24 C dX12_chance_23 rfl 0 rfl ?_
  refine x_lconst 25 C dX12_chance_24 rfl 1 rfl ?_
  refine x_callSe 28 C dX12_chance_25 rfl (c_X12_in (by omega) (by omega) (by omega)) tb_5_69 tb_5_70 tb_1_20 tb_5_71 (na := 3) (by decide +kernel) rfl ⟨by decide, by decide⟩ rfl (Nat.le_of_ble_eq_true rfl) rfl (fun r25 => ?_)
  first
    | refine x_ifb_ne 35 31 C dX12_chance_28 rfl rfl (fun h28 => ?_) (fun h28 => ?_)
    | refine x_if_ne 35 31 C dX12_chance_28 rfl rfl (by omega) (fun h28 => ?_) (fun h28 => ?_)
  · obtain ⟨n, rfl⟩ : ∃ s : Nat, n = (s : Int) := ⟨n.toNat, by omega⟩
    have hnn : (n : Int).toNat = n := Int.toNat_natCast n
    obtain ⟨s, rfl⟩ : ∃ s : Nat, w = (s : Int) := ⟨w.toNat, by omega⟩
    have hss : (s : Int).toNat = s := Int.toNat_natCast s
    refine x_aload_n 36 C dX12_chance_35 rfl rfl rfl ?_
    refine x_geti (j := 8) 39 C rfl (lt79 (by decide)) rfl rfl (by decide) inT12 tb_4_142 rfl dX12_chance_36 rfl (fun r36 => ?_)
    refine x_istore_5 41 C dX12_chance_39 rfl rfl ?_
    refine x_lconst 42 C dX12_chance_41 rfl 0 rfl ?_
    refine x_lstore_6 44 C dX12_chance_42 rfl rfl ?_
    refine x_iconst 45 C dX12_chance_44 rfl ?_
    refine x_istore_8 47 C dX12_chance_45 rfl rfl ?_
    have L47 : ∀ (mz : Nat) (k : Nat) (y h : Int) (s1 : Sig), mz = n - k → (k ≤ n ∧ y = k ∧ KX HFo σ s1 ∧ KV X N s1 ∧ h = ((chN X (cM σ) v s k : Nat) : Int)) → Ex K G (NN tc) ρ (shp tc cl) 47 [some (.ref (ρ 51)), some (.int (iZ v)), some (.int (iZ (n : Int))), some (.int (iZ (s : Int))), some (.int (iZ p)), some (.int (iZ (σ 51 8))), some (.long (lZ h)), none, some (.int (iZ y)), none, none, none, none, none] [] s1 := by
      intro mz
      induction mz using Nat.strongRecOn with
      | ind mz ih =>
        intro k y h s1 hmz hinv
        obtain ⟨hk, rfl, hX1, hV1, rfl⟩ := hinv
        have hcl0 := chN_le X (cM σ) v s k
        refine x_iload 49 C dX12_chance_47 rfl rfl ?_
        refine x_iload_n 50 C dX12_chance_49 rfl rfl rfl ?_
        refine x_icmp_ge 105 53 C dX12_chance_50 rfl rfl (by omega) (by omega) (fun h50 => ?_) (fun h50 => ?_)
        · have hkn : n = k := by omega
          subst hkn
          refine x_aload_n 106 C dX12_chance_105 rfl rfl rfl ?_
          refine x_iload 108 C dX12_chance_106 rfl rfl ?_
          refine x_puti (j := 8) tyX12 111 C rfl (lt79 (by decide)) rfl rfl (by decide) inT12 tyX12_ok nmX12 tb_4_142 rfl rfl rfl dX12_chance_108 rfl (by omega) ?_
          have hKf : KM σ (up s1 51 8 (σ 51 8)) := by
            refine KX_KM' (KX_up hX1 ⟨rfl, rfl⟩) (fun a b h => ?_)
            obtain ⟨rfl, rfl⟩ := h
            exact up_s
          have hVf : KV X N (up s1 51 8 (σ 51 8)) := KV_keep hV1 (up_row (by omega)) (up_row (by omega))
          obtain ⟨s5, hs5⟩ : ∃ s5, up s1 51 8 (σ 51 8) = s5 := ⟨_, rfl⟩
          rw [hs5] at hKf hVf ⊢
          have hcl := chN_le X (cM σ) v s n
          refine x_lload 113 C dX12_chance_111 rfl rfl ?_
          refine x_lstore_8 115 C dX12_chance_113 rfl rfl ?_
          refine x_iload_n 116 C dX12_chance_115 rfl rfl rfl ?_
          refine x_i2l 117 C dX12_chance_116 rfl (by omega) ?_
          refine x_lstore_10 119 C dX12_chance_117 rfl rfl ?_
          have L119 : ∀ (mz : Nat) (b a : Nat) (x12 : Option Value), mz = b → (b ≤ 20 ∧ a ≤ 20 ∧ Nat.gcd a b = Nat.gcd (chN X (cM σ) v s n) n) → Ex K G (NN tc) ρ (shp tc cl) 119 [some (.ref (ρ 51)), some (.int (iZ v)), some (.int (iZ (n : Int))), some (.int (iZ (s : Int))), some (.int (iZ p)), some (.int (iZ (σ 51 8))), some (.long (lZ ((chN X (cM σ) v s n : Nat) : Int))), none, some (.long (lZ (a : Int))), none, some (.long (lZ (b : Int))), none, x12, none] [] s5 := by
            intro mz
            induction mz using Nat.strongRecOn with
            | ind mz ih =>
              intro b a x12 hmz hinv
              obtain ⟨hb, ha, hgc⟩ := hinv
              refine x_lload 121 C dX12_chance_119 rfl rfl ?_
              refine x_lconst 122 C dX12_chance_121 rfl 0 rfl ?_
              refine x_lcmp 123 C dX12_chance_122 rfl (by omega) (by omega) ?_
              refine x_lif_eq 144 126 C dX12_chance_123 rfl rfl (fun h123 => ?_) (fun h123 => ?_)
              rotate_left
              · refine x_lload 128 C dX12_chance_126 rfl rfl ?_
                refine x_lload 130 C dX12_chance_128 rfl rfl ?_
                refine x_lrem 131 C dX12_chance_130 rfl (by omega) (by omega) ?_
                rw [show ((a : Nat) : Int) % ((b : Nat) : Int) = ((a % b : Nat) : Int) from (Int.natCast_emod a b).symm]
                have hab := Nat.mod_lt a (show 0 < b by omega)
                refine x_lstore_12 133 C dX12_chance_131 rfl rfl ?_
                refine x_lload 135 C dX12_chance_133 rfl rfl ?_
                refine x_lstore_8 137 C dX12_chance_135 rfl rfl ?_
                refine x_lload 139 C dX12_chance_137 rfl rfl ?_
                refine x_lstore_10 141 C dX12_chance_139 rfl rfl ?_
                refine x_goto 119 C dX12_chance_141 rfl ?_
                refine ih _ (by omega) (a % b) b _ rfl ⟨by omega, by omega, ?_⟩
                rw [← hgc, Nat.gcd_comm a b, Nat.gcd_rec b a, Nat.gcd_comm]
              have hb0 : b = 0 := by omega
              subst hb0
              rw [Nat.gcd_zero_right] at hgc
              subst hgc
              have hgp := Nat.gcd_pos_of_pos_right (chN X (cM σ) v s n) (show 0 < n by omega)
              have J162 : ∀ (z : Int), (z = rChance X (cM σ) v (n : Int) (s : Int) p) → Ex K G (NN tc) ρ (shp tc cl) 162 [some (.ref (ρ 51)), some (.int (iZ v)), some (.int (iZ (n : Int))), some (.int (iZ (s : Int))), some (.int (iZ p)), some (.int (iZ (σ 51 8))), some (.long (lZ ((chN X (cM σ) v s n : Nat) : Int))), none, some (.long (lZ ((Nat.gcd (chN X (cM σ) v s n) n : Nat) : Int))), none, some (.long (lZ ((0 : Nat) : Int))), none, x12, none] [.long (lZ z)] s5 := by
                intro z hinv
                have hz := hinv
                refine x_lret C T dX12_chance_162 ?_
                first
                  | (refine ⟨_, rfl, KM_refl σ, hW.2.2.2, ?_⟩
                     unfold rChance
                     rw [if_neg (by rw [cM_18]; omega)])
                  | exact ⟨_, rfl, hKf, hVf, hz⟩
              refine x_iload 146 C dX12_chance_144 rfl rfl ?_
              refine x_if_ne 157 149 C dX12_chance_146 rfl rfl (by omega) (fun h146 => ?_) (fun h146 => ?_)
              · have hp0 : p ≠ 0 := h146
                refine x_iload_n 158 C dX12_chance_157 rfl rfl rfl ?_
                refine x_i2l 159 C dX12_chance_158 rfl (by omega) ?_
                refine x_lload 161 C dX12_chance_159 rfl rfl ?_
                have hres : ((n : Nat) : Int) / ((Nat.gcd (chN X (cM σ) v s n) n : Nat) : Int) = rChance X (cM σ) v (n : Int) (s : Int) p := by
                  unfold rChance
                  rw [if_pos (by rw [cM_18]; omega), if_neg hp0, hss, hnn]
                  exact (Int.natCast_ediv _ _).symm
                refine x_ldiv 162 C dX12_chance_161 rfl (by omega) (by omega) ?_
                exact J162 _ hres
              have hp0 : p = 0 := h146
              refine x_lload 151 C dX12_chance_149 rfl rfl ?_
              refine x_lload 153 C dX12_chance_151 rfl rfl ?_
              refine x_ldiv 154 C dX12_chance_153 rfl (by omega) (by omega) ?_
              have hres : ((chN X (cM σ) v s n : Nat) : Int) / ((Nat.gcd (chN X (cM σ) v s n) n : Nat) : Int) = rChance X (cM σ) v (n : Int) (s : Int) p := by
                unfold rChance
                rw [if_pos (by rw [cM_18]; omega), if_pos hp0, hss, hnn]
                exact (Int.natCast_ediv _ _).symm
              refine x_goto 162 C dX12_chance_154 rfl ?_
              exact J162 _ hres
          exact L119 _ n _ _ rfl ⟨by omega, by omega, rfl⟩
        have hh := hsf_in ((v + (k : Int)) * 1103515245 + 12345)
        have hfo := fogF_in (v + (k : Int))
        refine x_aload_n 54 C dX12_chance_53 rfl rfl rfl ?_
        refine x_iload_n 55 C dX12_chance_54 rfl rfl rfl ?_
        refine x_iload 57 C dX12_chance_55 rfl rfl ?_
        refine x_iadd 58 C dX12_chance_57 rfl ?_
        refine x_ldcw (z := 1103515245) 61 C tb_6_82 dX12_chance_58 rfl ?_
        refine x_imul 62 C dX12_chance_61 rfl ?_
        refine x_sipush 65 C dX12_chance_62 rfl rfl ?_
        refine x_iadd 66 C dX12_chance_65 rfl ?_
        refine x_bipush 68 C dX12_chance_66 rfl rfl ?_
        refine x_iushr (hsf ((v + (k : Int)) * 1103515245 + 12345)) 69 C dX12_chance_68 rfl ((iZ_of _).symm) ?_
        refine x_bipush 71 C dX12_chance_69 rfl rfl ?_
        refine x_irem 72 C dX12_chance_71 rfl (by omega) (by omega) ?_
        refine x_puti (j := 8) tyX12 75 C rfl (lt79 (by decide)) rfl rfl (by decide) inT12 tyX12_ok nmX12 tb_4_142 rfl rfl rfl dX12_chance_72 rfl (by omega) ?_
        rw [show hsf ((v + (k : Int)) * 1103515245 + 12345) % 10 = fogF (v + (k : Int)) from rfl]
        obtain ⟨u, hue⟩ : ∃ u, up s1 51 8 (fogF (v + (k : Int))) = u := ⟨_, rfl⟩
        rw [hue]
        obtain ⟨hW_u, hu_u⟩ := KX_fog hX1 hV1 hW hfo
        rw [hue] at hW_u hu_u
        have f18_u : u 51 18 = σ 51 18 := by rw [← hue, up_i (by omega)]; exact hX1.2 18 (by omega) (fun hh => by unfold HFo at hh; omega)
        have hXu : KX HFo σ u := by rw [← hue]; exact KX_up hX1 ⟨rfl, rfl⟩
        refine x_aload_n 76 C dX12_chance_75 rfl rfl rfl ?_
        refine x_callVv 79 C dX12_chance_76 rfl (c_X12_morning (X := X) (N := N) hW_u) rfl (lt79 (by decide)) rfl tb_5_234 tb_5_236 tb_0_60 tb_1_20 tb_5_237 (na := 0) (by decide +kernel) rfl ⟨by decide, by decide⟩ rfl (Nat.le_of_ble_eq_true rfl) rfl (fun s76 hq76 hR76 => ?_)
        obtain ⟨hM_76, hV_76, hL_76, hD_76⟩ := hq76
        have hW_76 := KM_MW hM_76 hV_76 hW_u
        have e18_76 : s76 51 18 = σ 51 18 := (hM_76.2 18 (by omega)).trans f18_u
        have e13_76 : s76 51 13 = u 51 13 := hM_76.2 13 (by omega)
        have e62_76 : s76 62 = u 62 := KM_row hM_76 (by omega) (by omega) (by omega) (by omega)
        have J96 : ∀ (d : Int), (((chN X (cM σ) v s k : Nat) : Int) + d = ((chN X (cM σ) v s (k + 1) : Nat) : Int)) → Ex K G (NN tc) ρ (shp tc cl) 96 [some (.ref (ρ 51)), some (.int (iZ v)), some (.int (iZ (n : Int))), some (.int (iZ (s : Int))), some (.int (iZ p)), some (.int (iZ (σ 51 8))), some (.long (lZ ((chN X (cM σ) v s k : Nat) : Int))), none, some (.int (iZ (k : Int))), none, none, none, none, none] [.long (lZ d), .long (lZ ((chN X (cM σ) v s k : Nat) : Int))] s76 := by
          intro d hinv
          have hd := hinv
          refine x_ladd 97 C dX12_chance_96 rfl ?_
          rw [hd]
          refine x_lstore_6 99 C dX12_chance_97 rfl rfl ?_
          refine x_iinc_8 102 C dX12_chance_99 rfl rfl ?_
          refine x_goto 47 C dX12_chance_102 rfl ?_
          exact ih _ (by omega) (k + 1) _ _ _ rfl ⟨by omega, by omega, KX_KM hXu hM_76, hV_76, rfl⟩
        refine x_lload 81 C dX12_chance_79 rfl rfl ?_
        refine x_aload_n 82 C dX12_chance_81 rfl rfl rfl ?_
        refine x_getr (j := 39) 85 C rfl (lt79 (by decide)) rfl rfl (by decide) inT12 tb_4_173 rfl dX12_chance_82 rfl ?_
        refine x_iload_n 86 C dX12_chance_85 rfl rfl rfl ?_
        refine x_iald 87 C rfl (lt79 (by decide)) dX12_chance_86 rfl (by omega) (by omega) (fun r86 => ?_)
        rw [hss] at r86 ⊢
        refine x_iconst 88 C dX12_chance_87 rfl ?_
        refine x_icmp_ne 95 91 C dX12_chance_88 rfl rfl (by omega) (by omega) (fun h88 => ?_) (fun h88 => ?_)
        · have hst : ((chN X (cM σ) v s k : Nat) : Int) + 1 = ((chN X (cM σ) v s (k + 1) : Nat) : Int) := by
            simp only [chN]
            rw [← hu_u, ← (hD_76 s (by omega)).1, if_neg h88]
            omega
          refine x_lconst 96 C dX12_chance_95 rfl 1 rfl ?_
          exact J96 _ hst
        have hst : ((chN X (cM σ) v s k : Nat) : Int) + 0 = ((chN X (cM σ) v s (k + 1) : Nat) : Int) := by
          simp only [chN]
          rw [← hu_u, ← (hD_76 s (by omega)).1, if_pos h88]
          omega
        refine x_lconst 92 C dX12_chance_91 rfl 0 rfl ?_
        refine x_goto 96 C dX12_chance_92 rfl ?_
        exact J96 _ hst
    exact L47 _ 0 _ _ _ rfl ⟨by omega, rfl, KX_refl σ, hW.2.2.2, rfl⟩
  exact J31 () (by omega)
