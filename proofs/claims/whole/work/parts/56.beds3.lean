theorem c_SBC {l : Launch} {G : Gt} {ρ : Nat → Nat} {tc : Nat} {cl : Nat → Nat} {X : Nat → RuT} : ∀ f, SBC l G ρ tc cl X f
  | 0 => fun σ W P i g wv d hf hH => c_X3_standBed hf hH (fun f' h => absurd h (by omega))
  | f + 1 => fun σ W P i g wv d hf hH => c_X3_standBed hf hH (fun f' h => by cases h; exact c_SBC f)
set_option maxHeartbeats 4000000 in
set_option maxRecDepth 100000 in
theorem c_X3_standBeds {l : Launch} {G : Gt} {ρ : Nat → Nat} {tc : Nat} {cl : Nat → Nat} {σ : Sig} {X : Nat → RuT} (hW : CW X tc cl σ) : MX l yX3_standBeds cX3_standBeds 2 none 7 210 G (NN tc) ρ (shp tc cl) [.ref (ρ 32)] σ (PV (fun σ' => FB σ σ' ∧ Beds X (cT σ) (σ' 32 12) (σ' 32 13))) := by
  refine MX_of [some (.ref (ρ 32)), none] (by decide +kernel) rfl rfl (Nat.le_of_ble_eq_true rfl) ?_
  intro K hKl C T hRng
  subst hKl
  have hT := hW.1
  have h8 := hT.2.2.2.1
  have hTc := TI_cT hT
  have hsl : slN (cT σ) = (σ 1 8).toNat := rfl
  refine x_aload_n 1 C dX3_standBeds_0 rfl rfl rfl ?_
  refine x_callVv 4 C dX3_standBeds_1 rfl (c_X3_lookAllWays hW) rfl (lt79 (by decide)) rfl tb_3_236 tb_3_238 tb_0_28 tb_1_18 tb_3_239 (na := 0) (by decide +kernel) rfl ⟨by decide, by decide⟩ rfl (Nat.le_of_ble_eq_true rfl) rfl (fun s1 hq1 hR1 => ?_)
  obtain ⟨k1, k2⟩ := hq1
  have hT1 := Kp_TI k1 (by omega) hT
  refine x_aload_n 5 C dX3_standBeds_4 rfl rfl rfl ?_
  refine x_callVv 8 C dX3_standBeds_5 rfl (c_X3_sortSleepers hT1) rfl (lt79 (by decide)) rfl tb_3_165 tb_3_167 tb_0_22 tb_1_18 tb_3_168 (na := 0) (by decide +kernel) rfl ⟨by decide, by decide⟩ rfl (Nat.le_of_ble_eq_true rfl) rfl (fun s5 hq5 hR5 => ?_)
  obtain ⟨k3, k4⟩ := hq5
  rw [Kp_cT k1 (by omega)] at k4
  refine x_aload_n 9 C dX3_standBeds_8 rfl rfl rfl ?_
  refine x_iconst 10 C dX3_standBeds_9 rfl ?_
  refine x_puti (j := 12) tyX3 13 C rfl (lt79 (by decide)) rfl rfl (by decide) inT3 tyX3_ok nmX3 tb_2_120 rfl rfl rfl dX3_standBeds_10 rfl (by omega) ?_
  refine x_aload_n 14 C dX3_standBeds_13 rfl rfl rfl ?_
  refine x_iconst 15 C dX3_standBeds_14 rfl ?_
  refine x_puti (j := 13) tyX3 18 C rfl (lt79 (by decide)) rfl rfl (by decide) inT3 tyX3_ok nmX3 tb_2_122 rfl rfl rfl dX3_standBeds_15 rfl (by omega) ?_
  obtain ⟨s4, hs4⟩ : ∃ s4, up (up s5 32 12 (-1)) 32 13 0 = s4 := ⟨_, rfl⟩
  rw [hs4]
  have q4 : ∀ a, a ≠ 32 → s4 a = s5 a := fun a ha => by rw [← hs4, up_row ha, up_row ha]
  have hF4 : FB σ s4 := ⟨fun a h1 h2 h3 => by rw [q4 a (by omega), k3 a (by omega) h3]; exact k1 a (by omega) h3, fun b hb => by rw [q4 0 (by omega), k3 0 (by omega) (by omega)]; exact congrFun (k1 0 (by omega) (by omega)) b⟩
  have ec4 := FB_cT hF4
  have hSB : SBH X s4 (fun _ => 0) (fun _ => False) 0 0 0 0 := by
    refine ⟨FB_TI hF4 hT, fun q hq w hw => ?_, fun j hj => ?_, fun s => show 0 < 4 by decide, by omega, rfl, rfl, rfl, Or.inl ⟨by rw [← hs4, up_i (by omega), up_s], by rw [← hs4, up_s], fun _ _ h => h⟩⟩
    · rw [ec4, hF4.1 7 (by omega) (by omega) (by omega), hF4.1 9 (by omega) (by omega) (by omega)]
      exact LKa_keep (k2 q (by rw [← congrFun (hF4.1 1 (by omega) (by omega) (by omega)) 8]; exact hq) w hw) ((q4 36 (by omega)).trans (k3 36 (by omega) (by omega))) ((q4 37 (by omega)).trans (k3 37 (by omega) (by omega))) ((q4 38 (by omega)).trans (k3 38 (by omega) (by omega)))
    · rw [ec4, q4 39 (by omega)]
      refine k4 j ?_
      rw [k1 1 (by omega) (by omega), ← congrFun (hF4.1 1 (by omega) (by omega) (by omega)) 8]
      exact hj
  refine x_aload_n 19 C dX3_standBeds_18 rfl rfl rfl ?_
  refine x_iconst 20 C dX3_standBeds_19 rfl ?_
  refine x_iconst 21 C dX3_standBeds_20 rfl ?_
  refine x_iconst 22 C dX3_standBeds_21 rfl ?_
  refine x_iconst 23 C dX3_standBeds_22 rfl ?_
  refine x_callVv 26 C dX3_standBeds_23 rfl (c_SBC (X := X) (slN (cT σ)) s4 (fun _ => 0) (fun _ => False) 0 0 0 0 (by rw [ec4]; omega) hSB) rfl (lt79 (by decide)) rfl tb_4_0 tb_4_2 tb_0_29 tb_1_18 tb_4_3 (na := 4) (by decide +kernel) rfl ⟨by omega, by omega⟩ rfl (Nat.le_of_ble_eq_true rfl) rfl (fun s23 hq23 hR23 => ?_)
  obtain ⟨k5, k6⟩ := hq23
  rw [ec4] at k6
  have hbd := BDs_end (BDs_iff k6 (Q := fun _ => True) (fun V _ => ⟨fun _ => trivial, fun _ => Or.inr (fun j hj => absurd hj (by omega))⟩))
  have hF5 : FB σ s23 := ⟨fun a h1 h2 h3 => (KR_row k5 (by omega)).trans (hF4.1 a h1 h2 h3), fun b hb => (congrFun (KR_row k5 (by omega)) b).trans (hF4.2 b hb)⟩
  have hblr : -1 ≤ s23 32 12 ∧ s23 32 12 ≤ 5000 := by
    rcases k6 with ⟨h1, _, _⟩ | ⟨W, _, _, h3, _, _⟩
    · omega
    · have := wsW_pos (X := X) hTc (W := W); omega
  refine x_iconst 27 C dX3_standBeds_26 rfl ?_
  refine x_istore_n1 28 C dX3_standBeds_27 rfl rfl ?_
  have L28 : ∀ (mz : Nat) (s : Nat) (y : Int) (s1 : Sig), mz = 6 - s → ((s : Int) ≤ σ 1 8 ∧ y = s ∧ FB σ s1 ∧ s1 32 13 = s23 32 13 ∧ s1 32 12 = s23 32 12 - sumN (fun s => slpG X (cT σ) (σ 9 s) s) s) → Ex K G (NN tc) ρ (shp tc cl) 28 [some (.ref (ρ 32)), some (.int (iZ y))] [] s1 := by
    intro mz
    induction mz using Nat.strongRecOn with
    | ind mz ih =>
      intro s y s1 hmz hinv
      obtain ⟨hs, rfl, hF1, h13, h12⟩ := hinv
      have hW1 := FB_CW hF1 hW
      have e18 : s1 1 8 = σ 1 8 := congrFun (hF1.1 1 (by omega) (by omega) (by omega)) 8
      have hsm := sumN_in (f := fun s => slpG X (cT σ) (σ 9 s) s) (a := 0) (b := 99) (fun s => slpG_in X (cT σ) (σ 9 s) s) s
      refine x_iload_n 29 C dX3_standBeds_28 rfl rfl rfl ?_
      refine x_aload_n 30 C dX3_standBeds_29 rfl rfl rfl ?_
      refine x_getr (j := 0) 33 C rfl (lt79 (by decide)) rfl rfl (by decide) inT3 tb_2_107 rfl dX3_standBeds_30 rfl ?_
      refine x_geti (j := 8) 36 C rfl (lt79 (by decide)) rfl rfl (by decide) inT9 tb_1_59 rfl dX3_standBeds_33 rfl (fun r33 => ?_)
      refine x_icmp_ge 59 39 C dX3_standBeds_36 rfl rfl (by omega) (by omega) (fun h36 => ?_) (fun h36 => ?_)
      · refine x_vret C T dX3_standBeds_59 ?_
        refine PV_i ⟨hF1, ?_⟩
        rw [h13, h12, show s = slN (cT σ) by omega]
        exact hbd
      refine x_aload_n 40 C dX3_standBeds_39 rfl rfl rfl ?_
      refine x_dup 41 C dX3_standBeds_40 rfl rfl ?_
      refine x_geti (j := 12) 44 C rfl (lt79 (by decide)) rfl rfl (by decide) inT3 tb_2_120 rfl dX3_standBeds_41 rfl (fun r41 => ?_)
      refine x_aload_n 45 C dX3_standBeds_44 rfl rfl rfl ?_
      refine x_iload_n 46 C dX3_standBeds_45 rfl rfl rfl ?_
      refine x_callVi 49 C dX3_standBeds_46 rfl (c_X3_sleepOf (X := X) (s := s) hW1 (by omega)) rfl (lt79 (by decide)) rfl tb_3_194 tb_3_196 tb_0_25 tb_1_18 tb_3_197 (na := 1) (by decide +kernel) rfl ⟨by decide, by decide⟩ rfl (Nat.le_of_ble_eq_true rfl) rfl (fun z46 s46 hz46 hq46 hR46 => ?_)
      obtain ⟨j1, j2⟩ := hq46
      have j3 : z46 = slpG X (cT σ) (σ 9 s) s := by rw [← FB_cT hF1, ← hF1.1 9 (by omega) (by omega) (by omega)]; exact j2
      have hsi := slpG_in X (cT σ) (σ 9 s) s
      have hF2 := FB_Kp hF1 (Kp_wide (lo' := 33) (hi' := 41) j1 (by omega) (by omega))
      refine x_isub 50 C dX3_standBeds_49 rfl ?_
      skip
      refine x_puti (j := 12) tyX3 53 C rfl (lt79 (by decide)) rfl rfl (by decide) inT3 tyX3_ok nmX3 tb_2_120 rfl rfl rfl dX3_standBeds_50 rfl (by omega) ?_
      refine x_iinc_1 56 C dX3_standBeds_53 rfl rfl ?_
      refine x_goto 28 C dX3_standBeds_56 rfl ?_
      refine ih _ (by omega) (s + 1) _ _ rfl ⟨by omega, by omega, ⟨fun a h1 h2 h3 => by rw [up_row (by omega)]; exact hF2.1 a h1 h2 h3, fun b hb => by rw [up_row (by omega)]; exact hF2.2 b hb⟩, ?_, ?_⟩
      · rw [up_i (by omega), j1 32 (by omega) (by omega)]; exact h13
      · rw [up_s, h12, j3]
        simp only [sumN]
        omega
  exact L28 _ 0 _ _ rfl ⟨by omega, rfl, hF5, rfl, by simp [sumN]⟩

set_option maxHeartbeats 4000000 in
set_option maxRecDepth 100000 in
theorem c_X11_beds {l : Launch} {G : Gt} {ρ : Nat → Nat} {tc : Nat} {cl : Nat → Nat} {σ : Sig} {X : Nat → RuT} {w : Int} (hW : CW X tc cl σ) (hw : -2147483648 ≤ w ∧ w ≤ 2147483647) : MX l yX11_beds cX11_beds 2 (some .int) 8 231 G (NN tc) ρ (shp tc cl) [.ref (ρ 0), .int (iZ w)] σ (PI (fun z σ' => FB σ σ' ∧ ((w = 0 ∨ w = 1) → ∃ zz d, Beds X (cT σ) zz d ∧ z = (if w = 0 then zz else d)) ∧ (¬ (w = 0 ∨ w = 1) → z = -100000))) := by
  refine MX_of [some (.ref (ρ 0)), some (.int (iZ w))] (by decide +kernel) rfl rfl (Nat.le_of_ble_eq_true rfl) ?_
  intro K hKl C T hRng
  subst hKl
  have hT := hW.1
  have h3 := hT.2.2.1
  have h8 := hT.2.2.2.1
  have J12 : ∀ (u : Unit), (w = 0 ∨ w = 1) → Ex K G (NN tc) ρ (shp tc cl) 12 [some (.ref (ρ 0)), some (.int (iZ w))] [] σ := by
    intro u hinv
    have hw01 := hinv
    refine x_aload_n 13 C dX11_beds_12 rfl rfl rfl ?_
    refine x_getr (j := 7) 16 C rfl (lt79 (by decide)) rfl rfl (by decide) inT11 tb_2_180 rfl dX11_beds_13 rfl ?_
    refine x_callVv 19 C dX11_beds_16 rfl (c_X3_standBeds hW) rfl (lt79 (by decide)) rfl tb_3_232 tb_3_233 tb_3_234 tb_1_18 tb_3_235 (na := 0) (by decide +kernel) rfl ⟨by decide, by decide⟩ rfl (Nat.le_of_ble_eq_true rfl) rfl (fun s16 hq16 hR16 => ?_)
    obtain ⟨k1, k2⟩ := hq16
    refine x_iload_n 20 C dX11_beds_19 rfl rfl rfl ?_
    refine x_if_ne 33 23 C dX11_beds_20 rfl rfl (by omega) (fun h20 => ?_) (fun h20 => ?_)
    · refine x_aload_n 34 C dX11_beds_33 rfl rfl rfl ?_
      refine x_getr (j := 7) 37 C rfl (lt79 (by decide)) rfl rfl (by decide) inT11 tb_2_180 rfl dX11_beds_34 rfl ?_
      refine x_geti (j := 13) 40 C rfl (lt79 (by decide)) rfl rfl (by decide) inT3 tb_2_123 rfl dX11_beds_37 rfl (fun r37 => ?_)
      refine x_iret C T dX11_beds_40 ?_
      first
        | exact PI_i (by omega) ⟨FB_refl σ, fun h => absurd h (by omega), fun _ => rfl⟩
        | exact PI_i (by omega) ⟨k1, fun _ => ⟨_, _, k2, by first | rw [if_pos (by omega)] | rw [if_neg (by omega)]⟩, fun h => absurd hw01 h⟩
    refine x_aload_n 24 C dX11_beds_23 rfl rfl rfl ?_
    refine x_getr (j := 7) 27 C rfl (lt79 (by decide)) rfl rfl (by decide) inT11 tb_2_180 rfl dX11_beds_24 rfl ?_
    refine x_geti (j := 12) 30 C rfl (lt79 (by decide)) rfl rfl (by decide) inT3 tb_2_121 rfl dX11_beds_27 rfl (fun r27 => ?_)
    refine x_goto 40 C dX11_beds_30 rfl ?_
    refine x_iret C T dX11_beds_40 ?_
    first
      | exact PI_i (by omega) ⟨FB_refl σ, fun h => absurd h (by omega), fun _ => rfl⟩
      | exact PI_i (by omega) ⟨k1, fun _ => ⟨_, _, k2, by first | rw [if_pos (by omega)] | rw [if_neg (by omega)]⟩, fun h => absurd hw01 h⟩
  refine x_iload_n 1 C dX11_beds_0 rfl rfl rfl ?_
  refine x_if_eq 12 4 C dX11_beds_1 rfl rfl (by omega) (fun h1 => ?_) (fun h1 => ?_)
  · exact J12 () (by omega)
  refine x_iload_n 5 C dX11_beds_4 rfl rfl rfl ?_
  refine x_iconst 6 C dX11_beds_5 rfl ?_
  refine x_icmp_eq 12 9 C dX11_beds_6 rfl rfl (by omega) (by omega) (fun h6 => ?_) (fun h6 => ?_)
  · exact J12 () (by omega)
  refine x_ldcN (z := -100000) 11 C tb_3_185 (by decide) dX11_beds_9 rfl ?_
  refine x_iret C T dX11_beds_11 ?_
  first
    | exact PI_i (by omega) ⟨FB_refl σ, fun h => absurd h (by omega), fun _ => rfl⟩
    | exact PI_i (by omega) ⟨k1, fun _ => ⟨_, _, k2, by first | rw [if_pos (by omega)] | rw [if_neg (by omega)]⟩, fun h => absurd hw01 h⟩
