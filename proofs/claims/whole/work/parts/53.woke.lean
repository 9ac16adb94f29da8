set_option maxHeartbeats 4000000 in
set_option maxRecDepth 100000 in
theorem c_X11_woke {l : Launch} {G : Gt} {ρ : Nat → Nat} {tc : Nat} {cl : Nat → Nat} {σ : Sig} {X : Nat → RuT} {v w : Int} (hW : CW X tc cl σ) (hv : -2147483648 ≤ v ∧ v ≤ 2147483647) (hw : -2147483648 ≤ w ∧ w ≤ 2147483647) : MX l yX11_woke cX11_woke 6 (some .int) 6 155 G (NN tc) ρ (shp tc cl) [.ref (ρ 0), .int (iZ v), .int (iZ w)] σ (PI (fun z σ' => Kp 33 41 σ σ' ∧ z = rWoke X (cT σ) (refC σ v.toNat) (σ (47 + v.toNat)) v w)) := by
  refine MX_of [some (.ref (ρ 0)), some (.int (iZ v)), some (.int (iZ w)), none, none, none] (by decide +kernel) rfl rfl (Nat.le_of_ble_eq_true rfl) ?_
  intro K hKl C T hRng
  subst hKl
  have hT := hW.1
  have h3 := hT.2.2.1
  have h8 := hT.2.2.2.1
  have hTc := TI_cT hT
  refine x_iload_n 1 C dX11_woke_0 rfl rfl rfl ?_
  refine x_callSe 4 C dX11_woke_1 rfl (c_X11_isSheet (by omega)) tb_4_27 tb_4_28 tb_1_1 tb_4_29 (na := 1) (by decide +kernel) rfl ⟨by decide, by decide⟩ rfl (Nat.le_of_ble_eq_true rfl) rfl (fun r1 => ?_)
  first
    | refine x_ifb_eq 15 7 C dX11_woke_4 rfl rfl (fun h4 => ?_) (fun h4 => ?_)
    | refine x_if_eq 15 7 C dX11_woke_4 rfl rfl (by omega) (fun h4 => ?_) (fun h4 => ?_)
  · refine x_bipush 17 C dX11_woke_15 rfl rfl ?_
    refine x_iret C T dX11_woke_17 ?_
    refine PI_i (by omega) ⟨?_, ?_⟩
    · first | exact Kp_refl σ | exact hK1
    · unfold rWoke
      first
        | (rw [if_neg (by rw [cT_18]; omega)]; done)
        | (rw [if_pos (by rw [cT_18]; omega), hii, if_pos h25]; done)
        | (rw [if_pos (by rw [cT_18]; omega), hii, if_neg (by omega), hss, show (24 : Nat) = k by omega])
  refine x_aload_n 8 C dX11_woke_7 rfl rfl rfl ?_
  refine x_iload_n 9 C dX11_woke_8 rfl rfl rfl ?_
  refine x_callVe 12 C dX11_woke_9 rfl (c_X11_isSleeper (by omega)) rfl (lt79 (by decide)) rfl tb_3_54 tb_3_56 tb_0_16 tb_1_1 tb_3_57 (na := 1) (by decide +kernel) rfl ⟨by decide, by decide⟩ rfl (Nat.le_of_ble_eq_true rfl) rfl (fun r9 => ?_)
  first
    | refine x_ifb_ne 18 15 C dX11_woke_12 rfl rfl (fun h12 => ?_) (fun h12 => ?_)
    | refine x_if_ne 18 15 C dX11_woke_12 rfl rfl (by omega) (fun h12 => ?_) (fun h12 => ?_)
  rotate_left
  · refine x_bipush 17 C dX11_woke_15 rfl rfl ?_
    refine x_iret C T dX11_woke_17 ?_
    refine PI_i (by omega) ⟨?_, ?_⟩
    · first | exact Kp_refl σ | exact hK1
    · unfold rWoke
      first
        | (rw [if_neg (by rw [cT_18]; omega)]; done)
        | (rw [if_pos (by rw [cT_18]; omega), hii, if_pos h25]; done)
        | (rw [if_pos (by rw [cT_18]; omega), hii, if_neg (by omega), hss, show (24 : Nat) = k by omega])
  obtain ⟨i, rfl⟩ : ∃ i : Nat, v = (i : Int) := ⟨v.toNat, by omega⟩
  have hii : (i : Int).toNat = i := Int.toNat_natCast i
  have hrf := refC_in σ i
  obtain ⟨s, rfl⟩ : ∃ s : Nat, w = (s : Int) := ⟨w.toNat, by omega⟩
  have hss : (s : Int).toNat = s := Int.toNat_natCast s
  have hqs := hT.2.2.2.2 s
  refine x_aload_n 19 C dX11_woke_18 rfl rfl rfl ?_
  refine x_iload_n 20 C dX11_woke_19 rfl rfl rfl ?_
  refine x_callVe 23 C dX11_woke_20 rfl (c_X11_refusalOfTale (i := i) (by omega)) rfl (lt79 (by decide)) rfl tb_4_30 tb_4_32 tb_0_33 tb_1_1 tb_4_33 (na := 1) (by decide +kernel) rfl ⟨by decide, by decide⟩ rfl (Nat.le_of_ble_eq_true rfl) rfl (fun r20 => ?_)
  refine x_istore_n3 24 C dX11_woke_23 rfl rfl ?_
  refine x_iload_n 25 C dX11_woke_24 rfl rfl rfl ?_
  refine x_if_eq 30 28 C dX11_woke_25 rfl rfl (by omega) (fun h25 => ?_) (fun h25 => ?_)
  · have hsz := refC_0 h25
    rw [h25]
    refine x_iconst 31 C dX11_woke_30 rfl ?_
    refine x_istore_4 33 C dX11_woke_31 rfl rfl ?_
    refine x_aload_n 34 C dX11_woke_33 rfl rfl rfl ?_
    refine x_getr (j := 7) 37 C rfl (lt79 (by decide)) rfl rfl (by decide) inT11 tb_2_180 rfl dX11_woke_34 rfl ?_
    refine x_callVv 40 C dX11_woke_37 rfl (c_X3_lookAll (X := X) hW) rfl (lt79 (by decide)) rfl tb_3_210 tb_3_211 tb_3_212 tb_1_18 tb_3_213 (na := 0) (by decide +kernel) rfl ⟨by decide, by decide⟩ rfl (Nat.le_of_ble_eq_true rfl) rfl (fun s37 hq37 hR37 => ?_)
    obtain ⟨k1, k2⟩ := hq37
    refine x_iconst 41 C dX11_woke_40 rfl ?_
    refine x_istore_5 43 C dX11_woke_41 rfl rfl ?_
    have L43 : ∀ (mz : Nat) (k : Nat) (y g : Int) (s1 : Sig), mz = 24 - k → (k ≤ 24 ∧ y = k ∧ Kp 33 41 σ s1 ∧ HO X σ s s1 ∧ g = ((wokF X (cT σ) (σ (47 + i)) s k : Nat) : Int)) → Ex K G (NN tc) ρ (shp tc cl) 43 [some (.ref (ρ 0)), some (.int (iZ (i : Int))), some (.int (iZ (s : Int))), some (.int (iZ 0)), some (.int (iZ g)), some (.int (iZ y))] [] s1 := by
      intro mz
      induction mz using Nat.strongRecOn with
      | ind mz ih =>
        intro k y g s1 hmz hinv
        obtain ⟨hk, rfl, hK1, hO1, rfl⟩ := hinv
        have hlt := wokF_lt X (cT σ) (σ (47 + i)) s k
        have hp24 : (2 : Nat) ^ k ≤ 16777216 := Nat.le_trans (Nat.pow_le_pow_right (by decide) hk) (by decide)
        have hW1 := CW_Kp hW hK1 (by omega)
        have e18 : s1 1 8 = σ 1 8 := congrFun (hK1 1 (by omega) (by omega)) 8
        have hO1s : HO X s1 s s1 := by
          intro a hne ha
          rw [Kp_cT hK1 (by omega), hK1 8 (by omega) (by omega), hK1 9 (by omega) (by omega)]
          exact hO1 a hne (by omega)
        have hsz1 : s1 (43 + i) 2 = s1 1 8 := by rw [hK1 (43 + i) (by omega) (by omega), e18]; exact hsz
        refine x_iload 45 C dX11_woke_43 rfl rfl ?_
        refine x_bipush 47 C dX11_woke_45 rfl rfl ?_
        refine x_icmp_ge 85 50 C dX11_woke_47 rfl rfl (by omega) (by omega) (fun h47 => ?_) (fun h47 => ?_)
        · refine x_iload 87 C dX11_woke_85 rfl rfl ?_
          refine x_iret C T dX11_woke_87 ?_
          refine PI_i (by omega) ⟨?_, ?_⟩
          · first | exact Kp_refl σ | exact hK1
          · unfold rWoke
            first
              | (rw [if_neg (by rw [cT_18]; omega)]; done)
              | (rw [if_pos (by rw [cT_18]; omega), hii, if_pos h25]; done)
              | (rw [if_pos (by rw [cT_18]; omega), hii, if_neg (by omega), hss, show (24 : Nat) = k by omega])
        refine x_aload_n 51 C dX11_woke_50 rfl rfl rfl ?_
        refine x_iload_n 52 C dX11_woke_51 rfl rfl rfl ?_
        refine x_iload_n 53 C dX11_woke_52 rfl rfl rfl ?_
        refine x_iload 55 C dX11_woke_53 rfl rfl ?_
        refine x_aload_n 56 C dX11_woke_55 rfl rfl rfl ?_
        refine x_getr (j := 0) 59 C rfl (lt79 (by decide)) rfl rfl (by decide) inT11 tb_2_173 rfl dX11_woke_56 rfl ?_
        refine x_getr (j := 10) 62 C rfl (lt79 (by decide)) rfl rfl (by decide) inT9 tb_1_67 rfl dX11_woke_59 rfl ?_
        refine x_iload_n 63 C dX11_woke_62 rfl rfl rfl ?_
        refine x_iald 64 C rfl (lt79 (by decide)) dX11_woke_63 rfl (by omega) (by omega) (fun r63 => ?_)
        rw [show s1 8 (s : Int).toNat = σ 8 s by rw [hss, hK1 8 (by omega) (by omega)]] at r63 ⊢
        refine x_callVi 67 C dX11_woke_64 rfl (c_X11_isTold (X := X) (i := i) (s := s) (m := (k : Int)) (w := σ 8 s) hW1 (by omega) (by omega) hO1s hsz1 (by omega) (by omega)) rfl (lt79 (by decide)) rfl tb_4_34 tb_4_36 tb_0_34 tb_1_1 tb_4_37 (na := 4) (by decide +kernel) rfl ⟨by decide, by decide⟩ rfl (Nat.le_of_ble_eq_true rfl) rfl (fun z64 s64 hz64 hq64 hR64 => ?_)
        obtain ⟨j1, j2, j3⟩ := hq64
        rw [Kp_cT hK1 (by omega), hK1 (47 + i) (by omega) (by omega)] at j3
        have hK2 := Kp_trans hK1 j1
        have hO2 : HO X σ s s64 := HO_OLk hT hO1 j2 (by omega)
        have J79 : ∀ (g5 : Int) (u : Unit), (g5 = ((wokF X (cT σ) (σ (47 + i)) s (k + 1) : Nat) : Int)) → Ex K G (NN tc) ρ (shp tc cl) 79 [some (.ref (ρ 0)), some (.int (iZ (i : Int))), some (.int (iZ (s : Int))), some (.int (iZ 0)), some (.int (iZ g5)), some (.int (iZ (k : Int)))] [] s64 := by
          intro g5 u hinv
          have hg5 := hinv
          refine x_iinc_5 82 C dX11_woke_79 rfl rfl ?_
          refine x_goto 43 C dX11_woke_82 rfl ?_
          exact ih _ (by omega) (k + 1) _ _ _ rfl ⟨by omega, by omega, hK2, hO2, hg5⟩
        first
          | refine x_ifb_eq 79 70 C dX11_woke_67 rfl rfl (fun h67 => ?_) (fun h67 => ?_)
          | refine x_if_eq 79 70 C dX11_woke_67 rfl rfl (by omega) (fun h67 => ?_) (fun h67 => ?_)
        · have hno : othF X (tS (cT σ) s (k : Int) ((cT σ) 8 s)) (σ (47 + i)) ≠ -1 := by rcases j3 with h | h; omega; exact h.2
          have hst : wokF X (cT σ) (σ (47 + i)) s (k + 1) = wokF X (cT σ) (σ (47 + i)) s k := by simp only [wokF]; rw [if_neg hno]; omega
          exact J79 _ () (by rw [hst])
        have hyes : othF X (tS (cT σ) s (k : Int) ((cT σ) 8 s)) (σ (47 + i)) = -1 := by rcases j3 with h | h; exact h.2; omega
        have hst : wokF X (cT σ) (σ (47 + i)) s (k + 1) = wokF X (cT σ) (σ (47 + i)) s k + 2 ^ k := by simp only [wokF]; rw [if_pos hyes]
        refine x_iload 72 C dX11_woke_70 rfl rfl ?_
        refine x_iconst 73 C dX11_woke_72 rfl ?_
        refine x_iload 75 C dX11_woke_73 rfl rfl ?_
        refine x_ishl (((2 ^ k : Nat) : Int)) 76 C dX11_woke_75 rfl (shl24 k (by omega)) ?_
        refine x_ior (((wokF X (cT σ) (σ (47 + i)) s k + 2 ^ k : Nat) : Int)) 77 C dX11_woke_76 rfl (or_add hlt (by omega)) ?_
        refine x_istore_4 79 C dX11_woke_77 rfl rfl ?_
        exact J79 _ () (by rw [hst])
    exact L43 _ 0 _ _ _ rfl ⟨by omega, rfl, Kp_wide k1 (by omega) (by omega), HL_HO k2 s, rfl⟩
  refine x_iload_n 29 C dX11_woke_28 rfl rfl rfl ?_
  refine x_iret C T dX11_woke_29 ?_
  refine PI_i (by omega) ⟨?_, ?_⟩
  · first | exact Kp_refl σ | exact hK1
  · unfold rWoke
    first
      | (rw [if_neg (by rw [cT_18]; omega)]; done)
      | (rw [if_pos (by rw [cT_18]; omega), hii, if_pos h25]; done)
      | (rw [if_pos (by rw [cT_18]; omega), hii, if_neg (by omega), hss, show (24 : Nat) = k by omega])

set_option maxHeartbeats 4000000 in
set_option maxRecDepth 100000 in
theorem c_X11_judge {l : Launch} {G : Gt} {ρ : Nat → Nat} {tc : Nat} {cl : Nat → Nat} {σ : Sig} {X : Nat → RuT} {v : Int} (hW : CW X tc cl σ) (hv : -2147483648 ≤ v ∧ v ≤ 2147483647) : MX l yX11_judge cX11_judge 3 (some .int) 6 150 G (NN tc) ρ (shp tc cl) [.ref (ρ 0), .int (iZ v)] σ (PI (fun z σ' => Kp 33 41 σ σ' ∧ z = rJudge X (cT σ) (refC σ v.toNat) (σ (47 + v.toNat)) v)) := by
  refine MX_of [some (.ref (ρ 0)), some (.int (iZ v)), none] (by decide +kernel) rfl rfl (Nat.le_of_ble_eq_true rfl) ?_
  intro K hKl C T hRng
  subst hKl
  have hT := hW.1
  have h3 := hT.2.2.1
  have h8 := hT.2.2.2.1
  have hTc := TI_cT hT
  refine x_iload_n 1 C dX11_judge_0 rfl rfl rfl ?_
  refine x_callSe 4 C dX11_judge_1 rfl (c_X11_isSheet (by omega)) tb_4_27 tb_4_28 tb_1_1 tb_4_29 (na := 1) (by decide +kernel) rfl ⟨by decide, by decide⟩ rfl (Nat.le_of_ble_eq_true rfl) rfl (fun r1 => ?_)
  first
    | refine x_ifb_ne 10 7 C dX11_judge_4 rfl rfl (fun h4 => ?_) (fun h4 => ?_)
    | refine x_if_ne 10 7 C dX11_judge_4 rfl rfl (by omega) (fun h4 => ?_) (fun h4 => ?_)
  rotate_left
  · refine x_bipush 9 C dX11_judge_7 rfl rfl ?_
    refine x_iret C T dX11_judge_9 ?_
    refine PI_i (by omega) ⟨?_, ?_⟩
    · first | exact Kp_refl σ | exact k1
    · unfold rJudge
      first
        | (rw [if_neg (by omega)]; done)
        | (rw [if_pos (by omega), hii, if_pos h17]; done)
        | (rw [if_pos (by omega), hii, if_neg (by omega)])
  obtain ⟨i, rfl⟩ : ∃ i : Nat, v = (i : Int) := ⟨v.toNat, by omega⟩
  have hii : (i : Int).toNat = i := Int.toNat_natCast i
  have hrf := refC_in σ i
  refine x_aload_n 11 C dX11_judge_10 rfl rfl rfl ?_
  refine x_iload_n 12 C dX11_judge_11 rfl rfl rfl ?_
  refine x_callVe 15 C dX11_judge_12 rfl (c_X11_refusalOfTale (i := i) (by omega)) rfl (lt79 (by decide)) rfl tb_4_30 tb_4_32 tb_0_33 tb_1_1 tb_4_33 (na := 1) (by decide +kernel) rfl ⟨by decide, by decide⟩ rfl (Nat.le_of_ble_eq_true rfl) rfl (fun r12 => ?_)
  refine x_istore_n2 16 C dX11_judge_15 rfl rfl ?_
  refine x_iload_n 17 C dX11_judge_16 rfl rfl rfl ?_
  refine x_if_eq 22 20 C dX11_judge_17 rfl rfl (by omega) (fun h17 => ?_) (fun h17 => ?_)
  · have hsz := refC_0 h17
    refine x_aload_n 23 C dX11_judge_22 rfl rfl rfl ?_
    refine x_getr (j := 7) 26 C rfl (lt79 (by decide)) rfl rfl (by decide) inT11 tb_2_180 rfl dX11_judge_23 rfl ?_
    refine x_callVv 29 C dX11_judge_26 rfl (c_X3_dawn hW) rfl (lt79 (by decide)) rfl tb_3_156 tb_3_157 tb_3_158 tb_1_18 tb_3_159 (na := 0) (by decide +kernel) rfl ⟨by decide, by decide⟩ rfl (Nat.le_of_ble_eq_true rfl) rfl (fun s26 hq26 hR26 => ?_)
    obtain ⟨k1, k2, k3⟩ := hq26
    have hT2 := Kp_TI k1 (by omega) hT
    have e18 : s26 1 8 = σ 1 8 := congrFun (k1 1 (by omega) (by omega)) 8
    have hsz1 : s26 (43 + i) 2 = s26 1 8 := by rw [k1 (43 + i) (by omega) (by omega), e18]; exact hsz
    have hoth : fstF (fun q => decide (s26 (47 + i) q ≠ s26 40 q)) (s26 1 8).toNat = othF X (cT σ) (σ (47 + i)) := by
      unfold othF
      rw [e18, show slN (cT σ) = (σ 1 8).toNat from rfl]
      refine fstF_congr (fun q hq => ?_)
      rw [k1 (47 + i) (by omega) (by omega), (k3 q (by omega)).1]
    have hoi := othF_in (X := X) (it := σ (47 + i)) hTc
    refine x_aload_n 30 C dX11_judge_29 rfl rfl rfl ?_
    refine x_aload_n 31 C dX11_judge_30 rfl rfl rfl ?_
    refine x_getr (j := 8) 34 C rfl (lt79 (by decide)) rfl rfl (by decide) inT11 tb_2_181 rfl dX11_judge_31 rfl ?_
    refine x_iload_n 35 C dX11_judge_34 rfl rfl rfl ?_
    refine x_aald2 36 C rfl (lt79 (by decide)) dX11_judge_35 rfl (by omega) (by omega) rfl ?_
    refine x_callVe 39 C dX11_judge_36 rfl (c_X11_firstOtherwise (i := (i : Int).toNat) (by omega) hT2 (by rw [hii]; exact hsz1)) rfl (lt79 (by decide)) rfl tb_4_38 tb_4_40 tb_0_35 tb_1_1 tb_4_41 (na := 1) (by decide +kernel) rfl ⟨by decide, by decide⟩ rfl (Nat.le_of_ble_eq_true rfl) rfl (fun r36 => ?_)
    rw [hii, hoth] at r36 ⊢
    refine x_iret C T dX11_judge_39 ?_
    refine PI_i (by omega) ⟨?_, ?_⟩
    · first | exact Kp_refl σ | exact k1
    · unfold rJudge
      first
        | (rw [if_neg (by omega)]; done)
        | (rw [if_pos (by omega), hii, if_pos h17]; done)
        | (rw [if_pos (by omega), hii, if_neg (by omega)])
  refine x_iload_n 21 C dX11_judge_20 rfl rfl rfl ?_
  refine x_iret C T dX11_judge_21 ?_
  refine PI_i (by omega) ⟨?_, ?_⟩
  · first | exact Kp_refl σ | exact k1
  · unfold rJudge
    first
      | (rw [if_neg (by omega)]; done)
      | (rw [if_pos (by omega), hii, if_pos h17]; done)
      | (rw [if_pos (by omega), hii, if_neg (by omega)])
