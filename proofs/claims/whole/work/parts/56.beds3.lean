set_option maxHeartbeats 4000000 in
set_option maxRecDepth 100000 in
theorem c_X3_standBeds {l : Launch} {G : Gt} {ρ : Nat → Nat} {tc : Nat} {cl : Nat → Nat} {σ : Sig} {X : Nat → RuT} (hW : CW X tc cl σ) : MX l yX3_standBeds cX3_standBeds 4 none 6 152 G (NN tc) ρ (shp tc cl) [.ref (ρ 32)] σ (PV (fun σ' => FB σ σ' ∧ Beds X (cT σ) (σ' 32 12) (σ' 32 13))) := by
  refine MX_of [some (.ref (ρ 32)), none, none, none] (by decide +kernel) rfl rfl (Nat.le_of_ble_eq_true rfl) ?_
  intro K hKl C T hRng
  subst hKl
  have hT := hW.1
  have h8 := hT.2.2.2.1
  have hTc := TI_cT hT
  obtain ⟨n, hn⟩ : ∃ n : Nat, slN (cT σ) = n := ⟨_, rfl⟩
  have hn2 : (n : Int) = σ 1 8 := by rw [← hn, slN_T]; omega
  have hp4 := p4_le n (by omega)
  have hp10 := p10_le n (by omega)
  refine x_aload_n 1 C dX3_standBeds_0 rfl rfl rfl ?_
  refine x_callVv 4 C dX3_standBeds_1 rfl (c_X3_lookAllWays hW) rfl (lt79 (by decide)) rfl tb_3_235 tb_3_237 tb_0_28 tb_1_18 tb_3_238 (na := 0) (by decide +kernel) rfl ⟨by decide, by decide⟩ rfl (Nat.le_of_ble_eq_true rfl) rfl (fun s1 hq1 hR1 => ?_)
  obtain ⟨k1, k2⟩ := hq1
  have hT1 := Kp_TI k1 (by omega) hT
  refine x_aload_n 5 C dX3_standBeds_4 rfl rfl rfl ?_
  refine x_callVv 8 C dX3_standBeds_5 rfl (c_X3_sortSleepers hT1) rfl (lt79 (by decide)) rfl tb_3_165 tb_3_167 tb_0_22 tb_1_18 tb_3_168 (na := 0) (by decide +kernel) rfl ⟨by decide, by decide⟩ rfl (Nat.le_of_ble_eq_true rfl) rfl (fun s5 hq5 hR5 => ?_)
  obtain ⟨k3, k4⟩ := hq5
  rw [Kp_cT k1 (by omega)] at k4
  refine x_aload_n 9 C dX3_standBeds_8 rfl rfl rfl ?_
  refine x_iconst 10 C dX3_standBeds_9 rfl ?_
  refine x_puti (j := 12) tyX3 13 C rfl (lt79 (by decide)) rfl rfl (by decide) inT3 tyX3_ok nmX3 tb_2_120 rfl rfl rfl dX3_standBeds_10 rfl (by omega) ?_
  refine x_aload_n 14 C dX3_standBeds_13 rfl rfl rfl ?_
  refine x_iconst 15 C dX3_standBeds_14 rfl ?_
  refine x_puti (j := 13) tyX3 18 C rfl (lt79 (by decide)) rfl rfl (by decide) inT3 tyX3_ok nmX3 tb_2_122 rfl rfl rfl dX3_standBeds_15 rfl (by omega) ?_
  obtain ⟨s4, hs4⟩ : ∃ s4, up (up s5 32 12 (-1)) 32 13 0 = s4 := ⟨_, rfl⟩
  rw [hs4]
  have q4 : ∀ a, a ≠ 32 → s4 a = s5 a := fun a ha => by rw [← hs4, up_row ha, up_row ha]
  have hF4 : FB σ s4 := ⟨fun a h1 h2 h3 => by rw [q4 a (by omega), k3 a (by omega) h3]; exact k1 a (by omega) h3, fun b hb => by rw [q4 0 (by omega), k3 0 (by omega) (by omega)]; exact congrFun (k1 0 (by omega) (by omega)) b⟩
  have ec4 := FB_cT hF4
  have hT4 := FB_TI hF4 hT
  have e418 : s4 1 8 = σ 1 8 := congrFun (hF4.1 1 (by omega) (by omega) (by omega)) 8
  have hA4 : HLA X s4 s4 := fun q hq w hw => by
    rw [ec4, hF4.1 7 (by omega) (by omega) (by omega), hF4.1 9 (by omega) (by omega) (by omega)]
    exact LKa_keep (k2 q (by rw [← congrFun (hF4.1 1 (by omega) (by omega) (by omega)) 8]; exact hq) w hw) ((q4 36 (by omega)).trans (k3 36 (by omega) (by omega))) ((q4 37 (by omega)).trans (k3 37 (by omega) (by omega))) ((q4 38 (by omega)).trans (k3 38 (by omega) (by omega)))
  have hO4 : ORD s4 := fun j hj => by
    rw [ec4, q4 39 (by omega)]
    refine k4 j ?_
    rw [k1 1 (by omega) (by omega), ← congrFun (hF4.1 1 (by omega) (by omega) (by omega)) 8]
    exact hj
  have hC4 : CBk X (cT σ) 0 (s4 32 12) (s4 32 13) := by
    rw [← hs4, up_s, up_i (by omega), up_s]
    exact CBk_0
  refine x_iconst 19 C dX3_standBeds_18 rfl ?_
  refine x_iconst 20 C dX3_standBeds_19 rfl ?_
  refine x_aload_n 21 C dX3_standBeds_20 rfl rfl rfl ?_
  refine x_getr (j := 0) 24 C rfl (lt79 (by decide)) rfl rfl (by decide) inT3 tb_2_107 rfl dX3_standBeds_21 rfl ?_
  refine x_geti (j := 8) 27 C rfl (lt79 (by decide)) rfl rfl (by decide) inT9 tb_1_59 rfl dX3_standBeds_24 rfl (fun r24 => ?_)
  refine x_imul 28 C dX3_standBeds_27 rfl ?_
  rw [show 2 * s4 1 8 = ((2 * n : Nat) : Int) by omega]
  refine x_ishl (((4 ^ n : Nat) : Int)) 29 C dX3_standBeds_28 rfl (shl4 n (by omega)) ?_
  refine x_istore_n1 30 C dX3_standBeds_29 rfl rfl ?_
  refine x_iconst 31 C dX3_standBeds_30 rfl ?_
  refine x_istore_n2 32 C dX3_standBeds_31 rfl rfl ?_
  have L32 : ∀ (mz : Nat) (k : Nat) (y : Int) (s2 : Sig) (x3 : Option Value), mz = 4 ^ n - k → (k ≤ 4 ^ n ∧ y = k ∧ KR s4 s2 ∧ CBk X (cT σ) k (s2 32 12) (s2 32 13)) → Ex K G (NN tc) ρ (shp tc cl) 32 [some (.ref (ρ 32)), some (.int (iZ ((4 ^ n : Nat) : Int))), some (.int (iZ y)), x3] [] s2 := by
    intro mz
    induction mz using Nat.strongRecOn with
    | ind mz ih =>
      intro k y s2 x3 hmz hinv
      have ihk := ih
      obtain ⟨hk, rfl, hE, hC⟩ := hinv
      have hT2 := KR_TI hE hT4
      have ec2 := (KR_cT hE).trans ec4
      have hA2 := KR_HLA hE hA4
      have hO2 : ORD s2 := fun j hj => by
        rw [KR_cT hE, KR_row hE (show (39 : Nat) ≠ 32 by omega)]
        exact hO4 j (by rw [← KR_row hE (show (1 : Nat) ≠ 32 by omega)]; exact hj)
      have hblr := CBk_in hTc hC
      refine x_iload_n 33 C dX3_standBeds_32 rfl rfl rfl ?_
      refine x_iload_n 34 C dX3_standBeds_33 rfl rfl rfl ?_
      refine x_icmp_ge 71 37 C dX3_standBeds_34 rfl rfl (by omega) (by omega) (fun h34 => ?_) (fun h34 => ?_)
      · have hkk : k = 4 ^ n := by omega
        subst hkk
        have hF5 : FB σ s2 := ⟨fun a h1 h2 h3 => (KR_row hE (by omega)).trans (hF4.1 a h1 h2 h3), fun b hb => (congrFun (KR_row hE (by omega)) b).trans (hF4.2 b hb)⟩
        have hbd : Beds X (cT σ) (s2 32 12 - slpS X (cT σ)) (s2 32 13) := CBk_end (by rw [hn]; exact hC)
        refine x_iconst 72 C dX3_standBeds_71 rfl ?_
        refine x_istore_n2 73 C dX3_standBeds_72 rfl rfl ?_
        have L73 : ∀ (mz : Nat) (s : Nat) (y : Int) (s1 : Sig), mz = 6 - s → ((s : Int) ≤ σ 1 8 ∧ y = s ∧ FB σ s1 ∧ s1 32 13 = s2 32 13 ∧ s1 32 12 = s2 32 12 - sumN (fun s => slpG X (cT σ) (σ 9 s) s) s) → Ex K G (NN tc) ρ (shp tc cl) 73 [some (.ref (ρ 32)), some (.int (iZ ((4 ^ n : Nat) : Int))), some (.int (iZ y)), x3] [] s1 := by
          intro mz
          induction mz using Nat.strongRecOn with
          | ind mz ih =>
            intro s y s1 hmz hinv
            obtain ⟨hs, rfl, hF1, h13, h12⟩ := hinv
            have hW1 := FB_CW hF1 hW
            have e18 : s1 1 8 = σ 1 8 := congrFun (hF1.1 1 (by omega) (by omega) (by omega)) 8
            have hsm := sumN_in (f := fun s => slpG X (cT σ) (σ 9 s) s) (a := 0) (b := 99) (fun s => slpG_in X (cT σ) (σ 9 s) s) s
            refine x_iload_n 74 C dX3_standBeds_73 rfl rfl rfl ?_
            refine x_aload_n 75 C dX3_standBeds_74 rfl rfl rfl ?_
            refine x_getr (j := 0) 78 C rfl (lt79 (by decide)) rfl rfl (by decide) inT3 tb_2_107 rfl dX3_standBeds_75 rfl ?_
            refine x_geti (j := 8) 81 C rfl (lt79 (by decide)) rfl rfl (by decide) inT9 tb_1_59 rfl dX3_standBeds_78 rfl (fun r78 => ?_)
            refine x_icmp_ge 104 84 C dX3_standBeds_81 rfl rfl (by omega) (by omega) (fun h81 => ?_) (fun h81 => ?_)
            · refine x_vret C T dX3_standBeds_104 ?_
              refine PV_i ⟨hF1, ?_⟩
              rw [h13, h12, show s = slN (cT σ) by omega]
              exact hbd
            refine x_aload_n 85 C dX3_standBeds_84 rfl rfl rfl ?_
            refine x_dup 86 C dX3_standBeds_85 rfl rfl ?_
            refine x_geti (j := 12) 89 C rfl (lt79 (by decide)) rfl rfl (by decide) inT3 tb_2_120 rfl dX3_standBeds_86 rfl (fun r86 => ?_)
            refine x_aload_n 90 C dX3_standBeds_89 rfl rfl rfl ?_
            refine x_iload_n 91 C dX3_standBeds_90 rfl rfl rfl ?_
            refine x_callVi 94 C dX3_standBeds_91 rfl (c_X3_sleepOf (X := X) (s := s) hW1 (by omega)) rfl (lt79 (by decide)) rfl tb_3_194 tb_3_196 tb_0_25 tb_1_18 tb_3_197 (na := 1) (by decide +kernel) rfl ⟨by decide, by decide⟩ rfl (Nat.le_of_ble_eq_true rfl) rfl (fun z91 s91 hz91 hq91 hR91 => ?_)
            obtain ⟨j1, j2⟩ := hq91
            have j3 : z91 = slpG X (cT σ) (σ 9 s) s := by rw [← FB_cT hF1, ← hF1.1 9 (by omega) (by omega) (by omega)]; exact j2
            have hsi := slpG_in X (cT σ) (σ 9 s) s
            have hF2 := FB_Kp hF1 (Kp_wide (lo' := 33) (hi' := 41) j1 (by omega) (by omega))
            refine x_isub 95 C dX3_standBeds_94 rfl ?_
            refine x_puti (j := 12) tyX3 98 C rfl (lt79 (by decide)) rfl rfl (by decide) inT3 tyX3_ok nmX3 tb_2_120 rfl rfl rfl dX3_standBeds_95 rfl (by omega) ?_
            refine x_iinc_2 101 C dX3_standBeds_98 rfl rfl ?_
            refine x_goto 73 C dX3_standBeds_101 rfl ?_
            refine ih _ (by omega) (s + 1) _ _ rfl ⟨by omega, by omega, ⟨fun a h1 h2 h3 => by rw [up_row (by omega)]; exact hF2.1 a h1 h2 h3, fun b hb => by rw [up_row (by omega)]; exact hF2.2 b hb⟩, ?_, ?_⟩
            · rw [up_i (by omega), j1 32 (by omega) (by omega)]; exact h13
            · rw [up_s, h12, j3]
              simp only [sumN]
              omega
        exact L73 _ 0 _ _ rfl ⟨by omega, rfl, hF5, rfl, by simp [sumN]⟩
      refine x_aload_n 38 C dX3_standBeds_37 rfl rfl rfl ?_
      refine x_iload_n 39 C dX3_standBeds_38 rfl rfl rfl ?_
      refine x_callVe 42 C dX3_standBeds_39 rfl (c_X3_worthByCode (X := X) (k := k) hT2 hA2 hO2 (by rw [ec2, hn]; omega)) rfl (lt79 (by decide)) rfl tb_3_239 tb_4_1 tb_0_29 tb_1_18 tb_4_2 (na := 1) (by decide +kernel) rfl ⟨by decide, by decide⟩ rfl (Nat.le_of_ble_eq_true rfl) rfl (fun r39 => ?_)
      rw [ec2, hn] at r39 ⊢
      have hwp := wsW_pos (X := X) hTc (W := wK n k)
      refine x_istore_n3 43 C dX3_standBeds_42 rfl rfl ?_
      have J65 : ∀ (s6 : Sig), (KR s4 s6 ∧ CBk X (cT σ) (k + 1) (s6 32 12) (s6 32 13)) → Ex K G (NN tc) ρ (shp tc cl) 65 [some (.ref (ρ 32)), some (.int (iZ ((4 ^ n : Nat) : Int))), some (.int (iZ (k : Int))), some (.int (iZ (wsW X (cT σ) (wK n k))))] [] s6 := by
        intro s6 hinv
        obtain ⟨hE6, hC6⟩ := hinv
        refine x_iinc_2 68 C dX3_standBeds_65 rfl rfl ?_
        refine x_goto 32 C dX3_standBeds_68 rfl ?_
        exact ihk _ (by omega) (k + 1) _ _ _ rfl ⟨by omega, by omega, hE6, hC6⟩
      refine x_iload_n 44 C dX3_standBeds_43 rfl rfl rfl ?_
      refine x_aload_n 45 C dX3_standBeds_44 rfl rfl rfl ?_
      refine x_geti (j := 12) 48 C rfl (lt79 (by decide)) rfl rfl (by decide) inT3 tb_2_120 rfl dX3_standBeds_45 rfl (fun r45 => ?_)
      refine x_icmp_le 65 51 C dX3_standBeds_48 rfl rfl (by omega) (by omega) (fun h48 => ?_) (fun h48 => ?_)
      · have hst : KR s4 s2 ∧ CBk X (cT σ) (k + 1) (s2 32 12) (s2 32 13) := ⟨hE, CBk_keep hC (by rw [hn]; omega) (by rw [hn]; omega)⟩
        first
          | exact J65 _ hst
          | (refine J65 _ ⟨KR_up hE5 (by omega), ?_⟩
             have hnw := CBk_new hC (by rw [hn]; omega)
             rw [hn] at hnw
             rw [up_s, up_i (by omega), ← hs7, up_s]
             exact hnw)
      refine x_aload_n 52 C dX3_standBeds_51 rfl rfl rfl ?_
      refine x_iload_n 53 C dX3_standBeds_52 rfl rfl rfl ?_
      refine x_puti (j := 12) tyX3 56 C rfl (lt79 (by decide)) rfl rfl (by decide) inT3 tyX3_ok nmX3 tb_2_120 rfl rfl rfl dX3_standBeds_53 rfl (by omega) ?_
      obtain ⟨s7, hs7⟩ : ∃ s7, up s2 32 12 (wsW X (cT σ) (wK n k)) = s7 := ⟨_, rfl⟩
      rw [hs7]
      have hE5 : KR s4 s7 := by rw [← hs7]; exact KR_up hE (by omega)
      refine x_aload_n 57 C dX3_standBeds_56 rfl rfl rfl ?_
      refine x_aload_n 58 C dX3_standBeds_57 rfl rfl rfl ?_
      refine x_iload_n 59 C dX3_standBeds_58 rfl rfl rfl ?_
      refine x_callVe 62 C dX3_standBeds_59 rfl (c_X3_digitsOf (k := k) (KR_TI hE5 hT4) (by rw [KR_cT hE5, ec4, hn]; omega)) rfl (lt79 (by decide)) rfl tb_4_7 tb_4_9 tb_0_31 tb_1_18 tb_4_10 (na := 1) (by decide +kernel) rfl ⟨by decide, by decide⟩ rfl (Nat.le_of_ble_eq_true rfl) rfl (fun r59 => ?_)
      rw [KR_cT hE5, ec4, hn] at r59 ⊢
      have hdi := dK_in n k
      refine x_puti (j := 13) tyX3 65 C rfl (lt79 (by decide)) rfl rfl (by decide) inT3 tyX3_ok nmX3 tb_2_122 rfl rfl rfl dX3_standBeds_62 rfl (by omega) ?_
      first
        | exact J65 _ hst
        | (refine J65 _ ⟨KR_up hE5 (by omega), ?_⟩
           have hnw := CBk_new hC (by rw [hn]; omega)
           rw [hn] at hnw
           rw [up_s, up_i (by omega), ← hs7, up_s]
           exact hnw)
  exact L32 _ 0 _ _ _ rfl ⟨Nat.zero_le _, rfl, KR_refl s4, hC4⟩

set_option maxHeartbeats 4000000 in
set_option maxRecDepth 100000 in
theorem c_X11_beds {l : Launch} {G : Gt} {ρ : Nat → Nat} {tc : Nat} {cl : Nat → Nat} {σ : Sig} {X : Nat → RuT} {w : Int} (hW : CW X tc cl σ) (hw : -2147483648 ≤ w ∧ w ≤ 2147483647) : MX l yX11_beds cX11_beds 2 (some .int) 7 175 G (NN tc) ρ (shp tc cl) [.ref (ρ 0), .int (iZ w)] σ (PI (fun z σ' => FB σ σ' ∧ ((w = 0 ∨ w = 1) → ∃ zz d, Beds X (cT σ) zz d ∧ z = (if w = 0 then zz else d)) ∧ (¬ (w = 0 ∨ w = 1) → z = -100000))) := by
  refine MX_of [some (.ref (ρ 0)), some (.int (iZ w))] (by decide +kernel) rfl rfl (Nat.le_of_ble_eq_true rfl) ?_
  intro K hKl C T hRng
  subst hKl
  have hT := hW.1
  have h3 := hT.2.2.1
  have h8 := hT.2.2.2.1
  have J12 : ∀ (u : Unit), (w = 0 ∨ w = 1) → Ex K G (NN tc) ρ (shp tc cl) 12 [some (.ref (ρ 0)), some (.int (iZ w))] [] σ := by
    intro u hinv
    have hw01 := hinv
    refine x_aload_n 13 C dX11_beds_12 rfl rfl rfl ?_
    refine x_getr (j := 7) 16 C rfl (lt79 (by decide)) rfl rfl (by decide) inT11 tb_2_180 rfl dX11_beds_13 rfl ?_
    refine x_callVv 19 C dX11_beds_16 rfl (c_X3_standBeds hW) rfl (lt79 (by decide)) rfl tb_3_231 tb_3_232 tb_3_233 tb_1_18 tb_3_234 (na := 0) (by decide +kernel) rfl ⟨by decide, by decide⟩ rfl (Nat.le_of_ble_eq_true rfl) rfl (fun s16 hq16 hR16 => ?_)
    obtain ⟨k1, k2⟩ := hq16
    refine x_iload_n 20 C dX11_beds_19 rfl rfl rfl ?_
    refine x_if_ne 33 23 C dX11_beds_20 rfl rfl (by omega) (fun h20 => ?_) (fun h20 => ?_)
    · refine x_aload_n 34 C dX11_beds_33 rfl rfl rfl ?_
      refine x_getr (j := 7) 37 C rfl (lt79 (by decide)) rfl rfl (by decide) inT11 tb_2_180 rfl dX11_beds_34 rfl ?_
      refine x_geti (j := 13) 40 C rfl (lt79 (by decide)) rfl rfl (by decide) inT3 tb_2_123 rfl dX11_beds_37 rfl (fun r37 => ?_)
      refine x_iret C T dX11_beds_40 ?_
      first
        | exact PI_i (by omega) ⟨FB_refl σ, fun h => absurd h (by omega), fun _ => rfl⟩
        | exact PI_i (by omega) ⟨k1, fun _ => ⟨_, _, k2, by first | rw [if_pos (by omega)] | rw [if_neg (by omega)]⟩, fun h => absurd hw01 h⟩
    refine x_aload_n 24 C dX11_beds_23 rfl rfl rfl ?_
    refine x_getr (j := 7) 27 C rfl (lt79 (by decide)) rfl rfl (by decide) inT11 tb_2_180 rfl dX11_beds_24 rfl ?_
    refine x_geti (j := 12) 30 C rfl (lt79 (by decide)) rfl rfl (by decide) inT3 tb_2_121 rfl dX11_beds_27 rfl (fun r27 => ?_)
    refine x_goto 40 C dX11_beds_30 rfl ?_
    refine x_iret C T dX11_beds_40 ?_
    first
      | exact PI_i (by omega) ⟨FB_refl σ, fun h => absurd h (by omega), fun _ => rfl⟩
      | exact PI_i (by omega) ⟨k1, fun _ => ⟨_, _, k2, by first | rw [if_pos (by omega)] | rw [if_neg (by omega)]⟩, fun h => absurd hw01 h⟩
  refine x_iload_n 1 C dX11_beds_0 rfl rfl rfl ?_
  refine x_if_eq 12 4 C dX11_beds_1 rfl rfl (by omega) (fun h1 => ?_) (fun h1 => ?_)
  · exact J12 () (by omega)
  refine x_iload_n 5 C dX11_beds_4 rfl rfl rfl ?_
  refine x_iconst 6 C dX11_beds_5 rfl ?_
  refine x_icmp_eq 12 9 C dX11_beds_6 rfl rfl (by omega) (by omega) (fun h6 => ?_) (fun h6 => ?_)
  · exact J12 () (by omega)
  refine x_ldcN (z := -100000) 11 C tb_3_185 (by decide) dX11_beds_9 rfl ?_
  refine x_iret C T dX11_beds_11 ?_
  first
    | exact PI_i (by omega) ⟨FB_refl σ, fun h => absurd h (by omega), fun _ => rfl⟩
    | exact PI_i (by omega) ⟨k1, fun _ => ⟨_, _, k2, by first | rw [if_pos (by omega)] | rw [if_neg (by omega)]⟩, fun h => absurd hw01 h⟩
