theorem seenT_keep {X : Nat → RuT} {σ s : Sig} (h : ∀ a, a ≤ 10 → s a = σ a) : seenT X (cT s) = seenT X (cT σ) := by rw [cT_keep h]
theorem HL_keep {X : Nat → RuT} {τ σ s : Sig} (h : HL X τ σ) (h1 : s 36 = σ 36) (h2 : s 37 = σ 37) (h3 : s 38 = σ 38) : HL X τ s := fun a ha => LKa_keep (h a ha) h1 h2 h3
theorem HD_keep {X : Nat → RuT} {τ σ s : Sig} (h : HD X τ σ) (h1 : s 40 = σ 40) (h2 : s 41 = σ 41) : HD X τ s := by
  intro a ha
  rw [h1, h2]
  exact h a ha
theorem HD_in {X : Nat → RuT} {τ σ : Sig} (hT : TI τ) (h : HD X τ σ) {s : Nat} (hs : (s : Int) < τ 1 8) : (0 ≤ σ 41 s ∧ σ 41 s ≤ 1000) ∧ (-1 ≤ σ 40 s ∧ σ 40 s ≤ 5) := by
  obtain ⟨h1, h2⟩ := h s hs
  rw [h1, h2]
  refine ⟨worO_in (X := X) (T := cT τ) (m := τ 9 s) (s := s) (TI_cT hT), ?_⟩
  cases ho : hadT X (cT τ) s with
  | none => exact ⟨Int.le_refl _, show (-1 : Int) ≤ 5 by decide⟩
  | some q =>
    have hm : q ∈ seenT X (cT τ) s := hadO_mem ho
    have := (seenT_mem hT hm).1
    show -1 ≤ (q.1 : Int) ∧ (q.1 : Int) ≤ 5
    omega
theorem HD_left {X : Nat → RuT} {τ σ : Sig} (h : HD X τ σ) {s : Nat} (hs : (s : Int) < τ 1 8) : σ 41 s - slpG X (cT τ) (τ 9 s) s = leftT X (cT τ) s := by
  rw [(h s hs).2]
  rfl
theorem slpG_12 {X : Nat → RuT} {T T' : Sig} (h : T' 1 2 = T 1 2) (m s : Int) : slpG X T' m s = slpG X T m s := by unfold slpG; rw [h]
set_option maxHeartbeats 4000000 in
set_option maxRecDepth 100000 in
theorem c_X3_lookAll {l : Launch} {G : Gt} {ρ : Nat → Nat} {tc : Nat} {cl : Nat → Nat} {σ : Sig} {X : Nat → RuT} (hW : CW X tc cl σ) : MX l yX3_lookAll cX3_lookAll 2 none 5 129 G (NN tc) ρ (shp tc cl) [.ref (ρ 32)] σ (PV (fun σ' => Kp 33 38 σ σ' ∧ HL X σ σ')) := by
  refine MX_of [some (.ref (ρ 32)), none] (by decide +kernel) rfl rfl (Nat.le_of_ble_eq_true rfl) ?_
  intro K hKl C T hRng
  subst hKl
  have h8 := hW.1.2.2.2.1
  refine x_iconst 1 C dX3_lookAll_0 rfl ?_
  refine x_istore_n1 2 C dX3_lookAll_1 rfl rfl ?_
  have L2 : ∀ (mz : Nat) (s : Nat) (y : Int) (s1 : Sig), mz = 6 - s → ((s : Int) ≤ σ 1 8 ∧ y = s ∧ Kp 33 38 σ s1 ∧ ∀ q : Nat, q < s → LKa s1 (4 * q + (σ 8 q).toNat) (seenT X (cT σ) q) (wrth X (cT σ) (σ 9 q) q)) → Ex K G (NN tc) ρ (shp tc cl) 2 [some (.ref (ρ 32)), some (.int (iZ y))] [] s1 := by
    intro mz
    induction mz using Nat.strongRecOn with
    | ind mz ih =>
      intro s y s1 hmz hinv
      obtain ⟨hs, rfl, hK1, hd⟩ := hinv
      have hW1 := CW_Kp hW hK1 (by omega)
      have e18 : s1 1 8 = σ 1 8 := congrFun (hK1 1 (by omega) (by omega)) 8
      have e8 : s1 8 = σ 8 := hK1 8 (by omega) (by omega)
      have e9 : s1 9 = σ 9 := hK1 9 (by omega) (by omega)
      have ecT : cT s1 = cT σ := Kp_cT hK1 (by omega)
      refine x_iload_n 3 C dX3_lookAll_2 rfl rfl rfl ?_
      refine x_aload_n 4 C dX3_lookAll_3 rfl rfl rfl ?_
      refine x_getr (j := 0) 7 C rfl (lt79 (by decide)) rfl rfl (by decide) inT3 tb_2_107 rfl dX3_lookAll_4 rfl ?_
      refine x_geti (j := 8) 10 C rfl (lt79 (by decide)) rfl rfl (by decide) inT9 tb_1_59 rfl dX3_lookAll_7 rfl (fun r7 => ?_)
      refine x_icmp_ge 24 13 C dX3_lookAll_10 rfl rfl (by omega) (by omega) (fun h10 => ?_) (fun h10 => ?_)
      · refine x_vret C T dX3_lookAll_24 ?_
        exact PV_i ⟨hK1, fun q hq => hd q (by omega)⟩
      refine x_aload_n 14 C dX3_lookAll_13 rfl rfl rfl ?_
      refine x_iload_n 15 C dX3_lookAll_14 rfl rfl rfl ?_
      refine x_callVv 18 C dX3_lookAll_15 rfl (c_X3_look (X := X) (s := s) hW1 (by omega)) rfl (lt79 (by decide)) rfl tb_3_160 tb_3_59 tb_3_60 tb_1_18 tb_3_61 (na := 1) (by decide +kernel) rfl ⟨by decide, by decide⟩ rfl (Nat.le_of_ble_eq_true rfl) rfl (fun s15 hq15 hR15 => ?_)
      obtain ⟨k1, k2, k3⟩ := hq15
      rw [e8] at k2 k3
      rw [ecT, e9] at k3
      refine x_iinc_1 21 C dX3_lookAll_18 rfl rfl ?_
      refine x_goto 2 C dX3_lookAll_21 rfl ?_
      refine ih _ (by omega) (s + 1) _ _ rfl ⟨by omega, by omega, Kp_trans hK1 k1, fun q hq => ?_⟩
      have hqq := hW.1.2.2.2.2 q
      have hqs := hW.1.2.2.2.2 s
      by_cases hqe : q = s
      · subst hqe; exact k3
      · exact LKa_other (hd q (by omega)) k2 (by omega) (seenT_le hW.1 q)
  exact L2 _ 0 _ _ rfl ⟨by omega, rfl, Kp_refl σ, fun q hq => absurd hq (by omega)⟩

set_option maxHeartbeats 4000000 in
set_option maxRecDepth 100000 in
theorem c_X3_dawn {l : Launch} {G : Gt} {ρ : Nat → Nat} {tc : Nat} {cl : Nat → Nat} {σ : Sig} {X : Nat → RuT} (hW : CW X tc cl σ) : MX l yX3_dawn cX3_dawn 2 none 5 129 G (NN tc) ρ (shp tc cl) [.ref (ρ 32)] σ (PV (fun σ' => Kp 33 41 σ σ' ∧ HL X σ σ' ∧ HD X σ σ')) := by
  refine MX_of [some (.ref (ρ 32)), none] (by decide +kernel) rfl rfl (Nat.le_of_ble_eq_true rfl) ?_
  intro K hKl C T hRng
  subst hKl
  have h8 := hW.1.2.2.2.1
  refine x_iconst 1 C dX3_dawn_0 rfl ?_
  refine x_istore_n1 2 C dX3_dawn_1 rfl rfl ?_
  have L2 : ∀ (mz : Nat) (s : Nat) (y : Int) (s1 : Sig), mz = 6 - s → ((s : Int) ≤ σ 1 8 ∧ y = s ∧ Kp 33 38 σ s1 ∧ ∀ q : Nat, q < s → LKa s1 (4 * q + (σ 8 q).toNat) (seenT X (cT σ) q) (wrth X (cT σ) (σ 9 q) q)) → Ex K G (NN tc) ρ (shp tc cl) 2 [some (.ref (ρ 32)), some (.int (iZ y))] [] s1 := by
    intro mz
    induction mz using Nat.strongRecOn with
    | ind mz ih =>
      intro s y s1 hmz hinv
      obtain ⟨hs, rfl, hK1, hd⟩ := hinv
      have hW1 := CW_Kp hW hK1 (by omega)
      have e18 : s1 1 8 = σ 1 8 := congrFun (hK1 1 (by omega) (by omega)) 8
      have e8 : s1 8 = σ 8 := hK1 8 (by omega) (by omega)
      have e9 : s1 9 = σ 9 := hK1 9 (by omega) (by omega)
      have ecT : cT s1 = cT σ := Kp_cT hK1 (by omega)
      refine x_iload_n 3 C dX3_dawn_2 rfl rfl rfl ?_
      refine x_aload_n 4 C dX3_dawn_3 rfl rfl rfl ?_
      refine x_getr (j := 0) 7 C rfl (lt79 (by decide)) rfl rfl (by decide) inT3 tb_2_107 rfl dX3_dawn_4 rfl ?_
      refine x_geti (j := 8) 10 C rfl (lt79 (by decide)) rfl rfl (by decide) inT9 tb_1_59 rfl dX3_dawn_7 rfl (fun r7 => ?_)
      refine x_icmp_ge 24 13 C dX3_dawn_10 rfl rfl (by omega) (by omega) (fun h10 => ?_) (fun h10 => ?_)
      · refine x_aload_n 25 C dX3_dawn_24 rfl rfl rfl ?_
        refine x_callVv 28 C dX3_dawn_25 rfl (c_X3_deal (τ := σ) hW.1 (fun a ha => Kp_low hK1 (by omega) a (by omega)) (fun q hq => hd q (by omega))) rfl (lt79 (by decide)) rfl tb_3_161 tb_3_162 tb_3_163 tb_1_18 tb_3_164 (na := 0) (by decide +kernel) rfl ⟨by decide, by decide⟩ rfl (Nat.le_of_ble_eq_true rfl) rfl (fun s25 hq25 hR25 => ?_)
        obtain ⟨k4, k5⟩ := hq25
        refine x_vret C T dX3_dawn_28 ?_
        exact PV_i ⟨Kp_trans (Kp_wide hK1 (by omega) (by omega)) (Kp_wide k4 (by omega) (by omega)), fun q hq => LKa_keep (hd q (by omega)) (k4 36 (by omega) (by omega)) (k4 37 (by omega) (by omega)) (k4 38 (by omega) (by omega)), k5⟩
      refine x_aload_n 14 C dX3_dawn_13 rfl rfl rfl ?_
      refine x_iload_n 15 C dX3_dawn_14 rfl rfl rfl ?_
      refine x_callVv 18 C dX3_dawn_15 rfl (c_X3_look (X := X) (s := s) hW1 (by omega)) rfl (lt79 (by decide)) rfl tb_3_160 tb_3_59 tb_3_60 tb_1_18 tb_3_61 (na := 1) (by decide +kernel) rfl ⟨by decide, by decide⟩ rfl (Nat.le_of_ble_eq_true rfl) rfl (fun s15 hq15 hR15 => ?_)
      obtain ⟨k1, k2, k3⟩ := hq15
      rw [e8] at k2 k3
      rw [ecT, e9] at k3
      refine x_iinc_1 21 C dX3_dawn_18 rfl rfl ?_
      refine x_goto 2 C dX3_dawn_21 rfl ?_
      refine ih _ (by omega) (s + 1) _ _ rfl ⟨by omega, by omega, Kp_trans hK1 k1, fun q hq => ?_⟩
      have hqq := hW.1.2.2.2.2 q
      have hqs := hW.1.2.2.2.2 s
      by_cases hqe : q = s
      · subst hqe; exact k3
      · exact LKa_other (hd q (by omega)) k2 (by omega) (seenT_le hW.1 q)
  exact L2 _ 0 _ _ rfl ⟨by omega, rfl, Kp_refl σ, fun q hq => absurd hq (by omega)⟩

set_option maxHeartbeats 4000000 in
set_option maxRecDepth 100000 in
theorem c_X3_leftOf {l : Launch} {G : Gt} {ρ : Nat → Nat} {tc : Nat} {cl : Nat → Nat} {σ : Sig} {X : Nat → RuT} {s : Nat} (hW : CW X tc cl σ) (hs : (s : Int) < σ 1 8) (h41 : 0 ≤ σ 41 s ∧ σ 41 s ≤ 1000) : MX l yX3_leftOf cX3_leftOf 2 (some .int) 4 92 G (NN tc) ρ (shp tc cl) [.ref (ρ 32), .int (iZ (s : Int))] σ (PI (fun z σ' => Kp 33 33 σ σ' ∧ z = σ 41 s - slpG X (cT σ) (σ 9 s) s)) := by
  refine MX_of [some (.ref (ρ 32)), some (.int (iZ (s : Int)))] (by decide +kernel) rfl rfl (Nat.le_of_ble_eq_true rfl) ?_
  intro K hKl C T hRng
  subst hKl
  have h8 := hW.1.2.2.2.1
  have hss : (s : Int).toNat = s := Int.toNat_natCast s
  have hsl := slpG_in X (cT σ) (σ 9 s) s
  refine x_aload_n 1 C dX3_leftOf_0 rfl rfl rfl ?_
  refine x_getr (j := 11) 4 C rfl (lt79 (by decide)) rfl rfl (by decide) inT3 tb_2_119 rfl dX3_leftOf_1 rfl ?_
  refine x_iload_n 5 C dX3_leftOf_4 rfl rfl rfl ?_
  refine x_iald 6 C rfl (lt79 (by decide)) dX3_leftOf_5 rfl (by omega) (by omega) (fun r5 => ?_)
  rw [hss] at r5 ⊢
  refine x_aload_n 7 C dX3_leftOf_6 rfl rfl rfl ?_
  refine x_iload_n 8 C dX3_leftOf_7 rfl rfl rfl ?_
  refine x_callVi 11 C dX3_leftOf_8 rfl (c_X3_sleepOf (X := X) (s := s) hW hs) rfl (lt79 (by decide)) rfl tb_3_194 tb_3_196 tb_0_25 tb_1_18 tb_3_197 (na := 1) (by decide +kernel) rfl ⟨by decide, by decide⟩ rfl (Nat.le_of_ble_eq_true rfl) rfl (fun z8 s8 hz8 hq8 hR8 => ?_)
  obtain ⟨k1, k2⟩ := hq8
  have k3 : z8 = slpG X (cT σ) (σ 9 s) s := k2
  refine x_isub 12 C dX3_leftOf_11 rfl ?_
  refine x_iret C T dX3_leftOf_12 ?_
  exact PI_i (by omega) ⟨k1, by rw [k3]⟩

set_option maxHeartbeats 4000000 in
set_option maxRecDepth 100000 in
theorem c_X3_leftOfAll {l : Launch} {G : Gt} {ρ : Nat → Nat} {tc : Nat} {cl : Nat → Nat} {σ : Sig} {X : Nat → RuT} (hW : CW X tc cl σ) (h41 : ∀ s : Nat, (s : Int) < σ 1 8 → 0 ≤ σ 41 s ∧ σ 41 s ≤ 1000) : MX l yX3_leftOfAll cX3_leftOfAll 3 (some .int) 5 113 G (NN tc) ρ (shp tc cl) [.ref (ρ 32)] σ (PI (fun z σ' => Kp 33 33 σ σ' ∧ z = sumN (fun s => σ 41 s - slpG X (cT σ) (σ 9 s) s) (slN (cT σ)))) := by
  refine MX_of [some (.ref (ρ 32)), none, none] (by decide +kernel) rfl rfl (Nat.le_of_ble_eq_true rfl) ?_
  intro K hKl C T hRng
  subst hKl
  have h8 := hW.1.2.2.2.1
  have hb : ∀ s : Nat, (s : Int) ≤ σ 1 8 → -99 * (s : Int) ≤ sumN (fun s => σ 41 s - slpG X (cT σ) (σ 9 s) s) s ∧ sumN (fun s => σ 41 s - slpG X (cT σ) (σ 9 s) s) s ≤ 1000 * (s : Int) := by
    intro s
    induction s with
    | zero => intro _; simp [sumN]
    | succ s ih =>
      intro hs
      have h1 := ih (by omega)
      have h2 := h41 s (by omega)
      have h3 := slpG_in X (cT σ) (σ 9 s) s
      simp only [sumN]
      omega
  refine x_iconst 1 C dX3_leftOfAll_0 rfl ?_
  refine x_istore_n1 2 C dX3_leftOfAll_1 rfl rfl ?_
  refine x_iconst 3 C dX3_leftOfAll_2 rfl ?_
  refine x_istore_n2 4 C dX3_leftOfAll_3 rfl rfl ?_
  have L4 : ∀ (mz : Nat) (s : Nat) (y v : Int) (s1 : Sig), mz = 6 - s → ((s : Int) ≤ σ 1 8 ∧ y = s ∧ Kp 33 33 σ s1 ∧ v = sumN (fun s => σ 41 s - slpG X (cT σ) (σ 9 s) s) s) → Ex K G (NN tc) ρ (shp tc cl) 4 [some (.ref (ρ 32)), some (.int (iZ v)), some (.int (iZ y))] [] s1 := by
    intro mz
    induction mz using Nat.strongRecOn with
    | ind mz ih =>
      intro s y v s1 hmz hinv
      obtain ⟨hs, rfl, hK1, hv⟩ := hinv
      have hW1 := CW_Kp hW hK1 (by omega)
      have e18 : s1 1 8 = σ 1 8 := congrFun (hK1 1 (by omega) (by omega)) 8
      have e9 : s1 9 = σ 9 := hK1 9 (by omega) (by omega)
      have e41 : s1 41 = σ 41 := hK1 41 (by omega) (by omega)
      have ecT : cT s1 = cT σ := Kp_cT hK1 (by omega)
      have hbs := hb s hs
      refine x_iload_n 5 C dX3_leftOfAll_4 rfl rfl rfl ?_
      refine x_aload_n 6 C dX3_leftOfAll_5 rfl rfl rfl ?_
      refine x_getr (j := 0) 9 C rfl (lt79 (by decide)) rfl rfl (by decide) inT3 tb_2_107 rfl dX3_leftOfAll_6 rfl ?_
      refine x_geti (j := 8) 12 C rfl (lt79 (by decide)) rfl rfl (by decide) inT9 tb_1_59 rfl dX3_leftOfAll_9 rfl (fun r9 => ?_)
      refine x_icmp_ge 29 15 C dX3_leftOfAll_12 rfl rfl (by omega) (by omega) (fun h12 => ?_) (fun h12 => ?_)
      · refine x_iload_n 30 C dX3_leftOfAll_29 rfl rfl rfl ?_
        refine x_iret C T dX3_leftOfAll_30 ?_
        exact PI_i (by omega) ⟨hK1, by rw [hv, show s = slN (cT σ) by rw [slN_T]; omega]⟩
      refine x_iload_n 16 C dX3_leftOfAll_15 rfl rfl rfl ?_
      refine x_aload_n 17 C dX3_leftOfAll_16 rfl rfl rfl ?_
      refine x_iload_n 18 C dX3_leftOfAll_17 rfl rfl rfl ?_
      refine x_callVi 21 C dX3_leftOfAll_18 rfl (c_X3_leftOf (X := X) (s := s) hW1 (by omega) (by rw [e41]; exact h41 s (by omega))) rfl (lt79 (by decide)) rfl tb_3_190 tb_3_191 tb_3_192 tb_1_18 tb_3_193 (na := 1) (by decide +kernel) rfl ⟨by decide, by decide⟩ rfl (Nat.le_of_ble_eq_true rfl) rfl (fun z18 s18 hz18 hq18 hR18 => ?_)
      obtain ⟨k1, k2⟩ := hq18
      rw [e41, ecT, e9] at k2
      refine x_iadd 22 C dX3_leftOfAll_21 rfl ?_
      refine x_istore_n1 23 C dX3_leftOfAll_22 rfl rfl ?_
      refine x_iinc_2 26 C dX3_leftOfAll_23 rfl rfl ?_
      refine x_goto 4 C dX3_leftOfAll_26 rfl ?_
      exact ih _ (by omega) (s + 1) _ _ _ rfl ⟨by omega, by omega, Kp_trans hK1 k1, by rw [hv, k2]; rfl⟩
  exact L4 _ 0 _ _ _ rfl ⟨by omega, rfl, Kp_refl σ, rfl⟩

theorem HD_all {X : Nat → RuT} {τ σ : Sig} (h : HD X τ σ) (h8 : σ 1 8 = τ 1 8) (h9 : σ 9 = τ 9) (hr : σ 1 2 = τ 1 2) : sumN (fun s => σ 41 s - slpG X (cT σ) (σ 9 s) s) (slN (cT σ)) = allT X (cT τ) := by
  have e : slN (cT σ) = slN (cT τ) := by rw [slN_T, slN_T, h8]
  have key : ∀ n : Nat, (n : Int) ≤ τ 1 8 ∨ n = 0 → sumN (fun s => σ 41 s - slpG X (cT σ) (σ 9 s) s) n = sumN (leftT X (cT τ)) n := by
    intro n
    induction n with
    | zero => intro _; rfl
    | succ n ih =>
      intro hn
      simp only [sumN]
      rw [ih (by omega), h9, slpG_12 (X := X) (T := cT τ) (T' := cT σ) hr, HD_left h (by omega)]
  rw [e]
  unfold allT
  refine key _ ?_
  rw [slN_T]
  omega
/-- the first number below n of which p holds, -1 if there is none -/
def fstA (p : Nat → Bool) : Nat → Nat → Int
  | 0, _ => -1
  | f + 1, i => if p i then (i : Int) else fstA p f (i + 1)
def fstF (p : Nat → Bool) (n : Nat) : Int := fstA p n 0
theorem fstA_in (p : Nat → Bool) : ∀ f i, -1 ≤ fstA p f i ∧ fstA p f i < i + f + 1
  | 0, i => by show -1 ≤ (-1 : Int) ∧ (-1 : Int) < _; omega
  | f + 1, i => by
    have := fstA_in p f (i + 1)
    simp only [fstA]
    split <;> omega
def rSeen (X : Nat → RuT) (T : Sig) (v i : Int) : Int := if (0 ≤ v ∧ v < T 1 8) ∧ 0 ≤ i ∧ i < 6 then hasI ((seenT X T v.toNat)[i.toNat]?) else -2
def rHas (X : Nat → RuT) (T : Sig) (v : Int) : Int := if 0 ≤ v ∧ v < T 1 8 then hasI (hadT X T v.toNat) else -2
def rWhose (X : Nat → RuT) (T : Sig) (v : Int) : Int := if 0 ≤ v ∧ v < T 1 3 then fstF (fun s => decide (hasI (hadT X T s) = v)) (slN T) else -2
def rLeft (X : Nat → RuT) (T : Sig) (v : Int) : Int := if v = -1 then allT X T else if 0 ≤ v ∧ v < T 1 8 then leftT X T v.toNat else -100000
theorem allT_in {X : Nat → RuT} {T : Sig} (hT : TI T) : -500 ≤ allT X T ∧ allT X T ≤ 5000 := by
  have h := sumN_in (f := leftT X T) (a := -99) (b := 1000) (fun i => leftT_in hT) (slN T)
  have h8 := hT.2.2.2.1
  have e : slN T = (T 1 8).toNat := rfl
  unfold allT
  omega
set_option maxHeartbeats 4000000 in
set_option maxRecDepth 100000 in
theorem c_X11_seen {l : Launch} {G : Gt} {ρ : Nat → Nat} {tc : Nat} {cl : Nat → Nat} {σ : Sig} {X : Nat → RuT} {v i : Int} (hW : CW X tc cl σ) (hv : -2147483648 ≤ v ∧ v ≤ 2147483647) (hi : -2147483648 ≤ i ∧ i ≤ 2147483647) : MX l yX11_seen cX11_seen 3 (some .int) 5 129 G (NN tc) ρ (shp tc cl) [.ref (ρ 0), .int (iZ v), .int (iZ i)] σ (PI (fun z σ' => Kp 33 41 σ σ' ∧ z = rSeen X (cT σ) v i)) := by
  refine MX_of [some (.ref (ρ 0)), some (.int (iZ v)), some (.int (iZ i))] (by decide +kernel) rfl rfl (Nat.le_of_ble_eq_true rfl) ?_
  intro K hKl C T hRng
  subst hKl
  have hT := hW.1
  have h3 := hT.2.2.1
  have h8 := hT.2.2.2.1
  refine x_aload_n 1 C dX11_seen_0 rfl rfl rfl ?_
  refine x_iload_n 2 C dX11_seen_1 rfl rfl rfl ?_
  refine x_callVe 5 C dX11_seen_2 rfl (c_X11_isSleeper (by omega)) rfl (lt79 (by decide)) rfl tb_3_54 tb_3_56 tb_0_16 tb_1_1 tb_3_57 (na := 1) (by decide +kernel) rfl ⟨by decide, by decide⟩ rfl (Nat.le_of_ble_eq_true rfl) rfl (fun r2 => ?_)
  first
    | refine x_ifb_eq 17 8 C dX11_seen_5 rfl rfl (fun h5 => ?_) (fun h5 => ?_)
    | refine x_if_eq 17 8 C dX11_seen_5 rfl rfl (by omega) (fun h5 => ?_) (fun h5 => ?_)
  · refine x_bipush 19 C dX11_seen_17 rfl rfl ?_
    refine x_iret C T dX11_seen_19 ?_
    refine PI_i (by omega) ⟨?_, ?_⟩
    · first | exact Kp_refl σ | exact Kp_wide k1 (by omega) (by omega)
    · unfold rSeen
      first
        | (rw [if_neg (by rw [cT_18]; omega)]; done)
        | (rw [show (if (0 ≤ (s : Int) ∧ (s : Int) < cT σ 1 8) ∧ 0 ≤ (j : Int) ∧ (j : Int) < 6 then hasI ((seenT X (cT σ) (s : Int).toNat)[(j : Int).toNat]?) else -2) = hasI ((seenT X (cT σ) s)[j]?) by rw [if_pos (by rw [cT_18]; omega), Int.toNat_natCast, Int.toNat_natCast], e8, k3.1]
           by_cases hjl : j < (seenT X (cT σ) s).length
           · rw [if_pos (by omega), List.getElem?_eq_getElem hjl]
             exact (k3.2 j _ (List.getElem?_eq_getElem hjl)).1
           · rw [if_neg (by omega), List.getElem?_eq_none (by omega)]
             rfl)
  refine x_iload_n 9 C dX11_seen_8 rfl rfl rfl ?_
  refine x_bipush 11 C dX11_seen_9 rfl rfl ?_
  refine x_callSe 14 C dX11_seen_11 rfl (c_X11_isWithin (by omega) (by omega)) tb_2_214 tb_2_215 tb_1_1 tb_2_216 (na := 2) (by decide +kernel) rfl ⟨by decide, by decide⟩ rfl (Nat.le_of_ble_eq_true rfl) rfl (fun r11 => ?_)
  first
    | refine x_ifb_ne 20 17 C dX11_seen_14 rfl rfl (fun h14 => ?_) (fun h14 => ?_)
    | refine x_if_ne 20 17 C dX11_seen_14 rfl rfl (by omega) (fun h14 => ?_) (fun h14 => ?_)
  · obtain ⟨s, rfl⟩ : ∃ s : Nat, v = (s : Int) := ⟨v.toNat, by omega⟩
    have hss : (s : Int).toNat = s := Int.toNat_natCast s
    obtain ⟨j, rfl⟩ : ∃ j : Nat, i = (j : Int) := ⟨i.toNat, by omega⟩
    have hqs := hT.2.2.2.2 s
    refine x_aload_n 21 C dX11_seen_20 rfl rfl rfl ?_
    refine x_getr (j := 7) 24 C rfl (lt79 (by decide)) rfl rfl (by decide) inT11 tb_2_180 rfl dX11_seen_21 rfl ?_
    refine x_iload_n 25 C dX11_seen_24 rfl rfl rfl ?_
    refine x_callVv 28 C dX11_seen_25 rfl (c_X3_look (X := X) (s := s) hW (by omega)) rfl (lt79 (by decide)) rfl tb_3_58 tb_3_59 tb_3_60 tb_1_18 tb_3_61 (na := 1) (by decide +kernel) rfl ⟨by decide, by decide⟩ rfl (Nat.le_of_ble_eq_true rfl) rfl (fun s25 hq25 hR25 => ?_)
    obtain ⟨k1, k2, k3⟩ := hq25
    have hT2 := Kp_TI k1 (by omega) hT
    have e8 : s25 8 = σ 8 := k1 8 (by omega) (by omega)
    have e18 : s25 1 8 = σ 1 8 := congrFun (k1 1 (by omega) (by omega)) 8
    have hle := seenT_le (X := X) hT s
    refine x_aload_n 29 C dX11_seen_28 rfl rfl rfl ?_
    refine x_getr (j := 7) 32 C rfl (lt79 (by decide)) rfl rfl (by decide) inT11 tb_2_180 rfl dX11_seen_29 rfl ?_
    refine x_iload_n 33 C dX11_seen_32 rfl rfl rfl ?_
    refine x_iload_n 34 C dX11_seen_33 rfl rfl rfl ?_
    refine x_callVe 37 C dX11_seen_34 rfl (c_X3_seenBy (s := s) (i := j) hT2 (by omega) (by omega) (by rw [e8, k3.1]; omega)) rfl (lt79 (by decide)) rfl tb_3_148 tb_3_149 tb_3_150 tb_1_18 tb_3_151 (na := 2) (by decide +kernel) rfl ⟨by decide, by decide⟩ rfl (Nat.le_of_ble_eq_true rfl) rfl (fun r34 => ?_)
    refine x_iret C T dX11_seen_37 ?_
    refine PI_i (by omega) ⟨?_, ?_⟩
    · first | exact Kp_refl σ | exact Kp_wide k1 (by omega) (by omega)
    · unfold rSeen
      first
        | (rw [if_neg (by rw [cT_18]; omega)]; done)
        | (rw [show (if (0 ≤ (s : Int) ∧ (s : Int) < cT σ 1 8) ∧ 0 ≤ (j : Int) ∧ (j : Int) < 6 then hasI ((seenT X (cT σ) (s : Int).toNat)[(j : Int).toNat]?) else -2) = hasI ((seenT X (cT σ) s)[j]?) by rw [if_pos (by rw [cT_18]; omega), Int.toNat_natCast, Int.toNat_natCast], e8, k3.1]
           by_cases hjl : j < (seenT X (cT σ) s).length
           · rw [if_pos (by omega), List.getElem?_eq_getElem hjl]
             exact (k3.2 j _ (List.getElem?_eq_getElem hjl)).1
           · rw [if_neg (by omega), List.getElem?_eq_none (by omega)]
             rfl)
  refine x_bipush 19 C dX11_seen_17 rfl rfl ?_
  refine x_iret C T dX11_seen_19 ?_
  refine PI_i (by omega) ⟨?_, ?_⟩
  · first | exact Kp_refl σ | exact Kp_wide k1 (by omega) (by omega)
  · unfold rSeen
    first
      | (rw [if_neg (by rw [cT_18]; omega)]; done)
      | (rw [show (if (0 ≤ (s : Int) ∧ (s : Int) < cT σ 1 8) ∧ 0 ≤ (j : Int) ∧ (j : Int) < 6 then hasI ((seenT X (cT σ) (s : Int).toNat)[(j : Int).toNat]?) else -2) = hasI ((seenT X (cT σ) s)[j]?) by rw [if_pos (by rw [cT_18]; omega), Int.toNat_natCast, Int.toNat_natCast], e8, k3.1]
         by_cases hjl : j < (seenT X (cT σ) s).length
         · rw [if_pos (by omega), List.getElem?_eq_getElem hjl]
           exact (k3.2 j _ (List.getElem?_eq_getElem hjl)).1
         · rw [if_neg (by omega), List.getElem?_eq_none (by omega)]
           rfl)

set_option maxHeartbeats 4000000 in
set_option maxRecDepth 100000 in
theorem c_X11_has {l : Launch} {G : Gt} {ρ : Nat → Nat} {tc : Nat} {cl : Nat → Nat} {σ : Sig} {X : Nat → RuT} {v : Int} (hW : CW X tc cl σ) (hv : -2147483648 ≤ v ∧ v ≤ 2147483647) : MX l yX11_has cX11_has 2 (some .int) 6 150 G (NN tc) ρ (shp tc cl) [.ref (ρ 0), .int (iZ v)] σ (PI (fun z σ' => Kp 33 41 σ σ' ∧ z = rHas X (cT σ) v)) := by
  refine MX_of [some (.ref (ρ 0)), some (.int (iZ v))] (by decide +kernel) rfl rfl (Nat.le_of_ble_eq_true rfl) ?_
  intro K hKl C T hRng
  subst hKl
  have hT := hW.1
  have h3 := hT.2.2.1
  have h8 := hT.2.2.2.1
  refine x_aload_n 1 C dX11_has_0 rfl rfl rfl ?_
  refine x_iload_n 2 C dX11_has_1 rfl rfl rfl ?_
  refine x_callVe 5 C dX11_has_2 rfl (c_X11_isSleeper (by omega)) rfl (lt79 (by decide)) rfl tb_3_54 tb_3_56 tb_0_16 tb_1_1 tb_3_57 (na := 1) (by decide +kernel) rfl ⟨by decide, by decide⟩ rfl (Nat.le_of_ble_eq_true rfl) rfl (fun r2 => ?_)
  first
    | refine x_ifb_ne 11 8 C dX11_has_5 rfl rfl (fun h5 => ?_) (fun h5 => ?_)
    | refine x_if_ne 11 8 C dX11_has_5 rfl rfl (by omega) (fun h5 => ?_) (fun h5 => ?_)
  · obtain ⟨s, rfl⟩ : ∃ s : Nat, v = (s : Int) := ⟨v.toNat, by omega⟩
    have hss : (s : Int).toNat = s := Int.toNat_natCast s
    refine x_aload_n 12 C dX11_has_11 rfl rfl rfl ?_
    refine x_getr (j := 7) 15 C rfl (lt79 (by decide)) rfl rfl (by decide) inT11 tb_2_180 rfl dX11_has_12 rfl ?_
    refine x_callVv 18 C dX11_has_15 rfl (c_X3_dawn hW) rfl (lt79 (by decide)) rfl tb_3_156 tb_3_157 tb_3_158 tb_1_18 tb_3_159 (na := 0) (by decide +kernel) rfl ⟨by decide, by decide⟩ rfl (Nat.le_of_ble_eq_true rfl) rfl (fun s15 hq15 hR15 => ?_)
    obtain ⟨k1, k2, k3⟩ := hq15
    have hW2 := CW_Kp hW k1 (by omega)
    have e18 : s15 1 8 = σ 1 8 := congrFun (k1 1 (by omega) (by omega)) 8
    have e12 : s15 1 2 = σ 1 2 := congrFun (k1 1 (by omega) (by omega)) 2
    have e9 : s15 9 = σ 9 := k1 9 (by omega) (by omega)
    have ecT : cT s15 = cT σ := Kp_cT k1 (by omega)
    refine x_aload_n 19 C dX11_has_18 rfl rfl rfl ?_
    refine x_getr (j := 7) 22 C rfl (lt79 (by decide)) rfl rfl (by decide) inT11 tb_2_180 rfl dX11_has_19 rfl ?_
    refine x_getr (j := 10) 25 C rfl (lt79 (by decide)) rfl rfl (by decide) inT3 tb_2_118 rfl dX11_has_22 rfl ?_
    refine x_iload_n 26 C dX11_has_25 rfl rfl rfl ?_
    refine x_iald 27 C rfl (lt79 (by decide)) dX11_has_26 rfl (by omega) (by omega) (fun r26 => ?_)
    rw [hss] at r26 ⊢
    refine x_iret C T dX11_has_27 ?_
    refine PI_i (by omega) ⟨?_, ?_⟩
    · first | exact Kp_refl σ | exact k1
    · unfold rHas
      first
        | (rw [if_neg (by rw [cT_18]; omega)]; done)
        | (rw [if_pos (by rw [cT_18]; omega), hss]; exact (k3 s (by omega)).1)
  refine x_bipush 10 C dX11_has_8 rfl rfl ?_
  refine x_iret C T dX11_has_10 ?_
  refine PI_i (by omega) ⟨?_, ?_⟩
  · first | exact Kp_refl σ | exact k1
  · unfold rHas
    first
      | (rw [if_neg (by rw [cT_18]; omega)]; done)
      | (rw [if_pos (by rw [cT_18]; omega), hss]; exact (k3 s (by omega)).1)

set_option maxHeartbeats 4000000 in
set_option maxRecDepth 100000 in
theorem c_X11_whose {l : Launch} {G : Gt} {ρ : Nat → Nat} {tc : Nat} {cl : Nat → Nat} {σ : Sig} {X : Nat → RuT} {v : Int} (hW : CW X tc cl σ) (hv : -2147483648 ≤ v ∧ v ≤ 2147483647) : MX l yX11_whose cX11_whose 3 (some .int) 6 150 G (NN tc) ρ (shp tc cl) [.ref (ρ 0), .int (iZ v)] σ (PI (fun z σ' => Kp 33 41 σ σ' ∧ z = rWhose X (cT σ) v)) := by
  refine MX_of [some (.ref (ρ 0)), some (.int (iZ v)), none] (by decide +kernel) rfl rfl (Nat.le_of_ble_eq_true rfl) ?_
  intro K hKl C T hRng
  subst hKl
  have hT := hW.1
  have h3 := hT.2.2.1
  have h8 := hT.2.2.2.1
  refine x_aload_n 1 C dX11_whose_0 rfl rfl rfl ?_
  refine x_iload_n 2 C dX11_whose_1 rfl rfl rfl ?_
  refine x_callVe 5 C dX11_whose_2 rfl (c_X11_isThing (by omega)) rfl (lt79 (by decide)) rfl tb_3_15 tb_3_17 tb_0_14 tb_1_1 tb_3_18 (na := 1) (by decide +kernel) rfl ⟨by decide, by decide⟩ rfl (Nat.le_of_ble_eq_true rfl) rfl (fun r2 => ?_)
  first
    | refine x_ifb_ne 11 8 C dX11_whose_5 rfl rfl (fun h5 => ?_) (fun h5 => ?_)
    | refine x_if_ne 11 8 C dX11_whose_5 rfl rfl (by omega) (fun h5 => ?_) (fun h5 => ?_)
  · refine x_aload_n 12 C dX11_whose_11 rfl rfl rfl ?_
    refine x_getr (j := 7) 15 C rfl (lt79 (by decide)) rfl rfl (by decide) inT11 tb_2_180 rfl dX11_whose_12 rfl ?_
    refine x_callVv 18 C dX11_whose_15 rfl (c_X3_dawn hW) rfl (lt79 (by decide)) rfl tb_3_156 tb_3_157 tb_3_158 tb_1_18 tb_3_159 (na := 0) (by decide +kernel) rfl ⟨by decide, by decide⟩ rfl (Nat.le_of_ble_eq_true rfl) rfl (fun s15 hq15 hR15 => ?_)
    obtain ⟨k1, k2, k3⟩ := hq15
    have hW2 := CW_Kp hW k1 (by omega)
    have e18 : s15 1 8 = σ 1 8 := congrFun (k1 1 (by omega) (by omega)) 8
    have e12 : s15 1 2 = σ 1 2 := congrFun (k1 1 (by omega) (by omega)) 2
    have e9 : s15 9 = σ 9 := k1 9 (by omega) (by omega)
    have ecT : cT s15 = cT σ := Kp_cT k1 (by omega)
    refine x_iconst 19 C dX11_whose_18 rfl ?_
    refine x_istore_n2 20 C dX11_whose_19 rfl rfl ?_
    have L20 : ∀ (mz : Nat) (s : Nat) (y : Int), mz = 6 - s → ((s : Int) ≤ σ 1 8 ∧ y = s ∧ fstA (fun s => decide (hasI (hadT X (cT σ) s) = v)) (slN (cT σ) - s) s = fstF (fun s => decide (hasI (hadT X (cT σ) s) = v)) (slN (cT σ))) → Ex K G (NN tc) ρ (shp tc cl) 20 [some (.ref (ρ 0)), some (.int (iZ v)), some (.int (iZ y))] [] s15 := by
      intro mz
      induction mz using Nat.strongRecOn with
      | ind mz ih =>
        intro s y hmz hinv
        obtain ⟨hs, rfl, hf⟩ := hinv
        have hss : (s : Int).toNat = s := Int.toNat_natCast s
        have hsl := slN_T (σ := σ)
        refine x_iload_n 21 C dX11_whose_20 rfl rfl rfl ?_
        refine x_aload_n 22 C dX11_whose_21 rfl rfl rfl ?_
        refine x_getr (j := 0) 25 C rfl (lt79 (by decide)) rfl rfl (by decide) inT11 tb_2_173 rfl dX11_whose_22 rfl ?_
        refine x_geti (j := 8) 28 C rfl (lt79 (by decide)) rfl rfl (by decide) inT9 tb_1_61 rfl dX11_whose_25 rfl (fun r25 => ?_)
        refine x_icmp_ge 52 31 C dX11_whose_28 rfl rfl (by omega) (by omega) (fun h28 => ?_) (fun h28 => ?_)
        · refine x_iconst 53 C dX11_whose_52 rfl ?_
          refine x_iret C T dX11_whose_53 ?_
          refine PI_i (by omega) ⟨?_, ?_⟩
          · first | exact Kp_refl σ | exact k1
          · unfold rWhose
            first
              | (rw [if_neg (by rw [cT_13]; omega)]; done)
              | (rw [if_pos (by rw [cT_13]; omega), ← hf]
                 first
                   | (rw [hcons]
                      simp only [fstA]
                      rw [if_pos (by rw [decide_eq_true_eq, ← (k3 s (by omega)).1]; exact h41)])
                   | (rw [show slN (cT σ) - s = 0 by omega]; rfl))
        refine x_aload_n 32 C dX11_whose_31 rfl rfl rfl ?_
        refine x_getr (j := 7) 35 C rfl (lt79 (by decide)) rfl rfl (by decide) inT11 tb_2_180 rfl dX11_whose_32 rfl ?_
        refine x_getr (j := 10) 38 C rfl (lt79 (by decide)) rfl rfl (by decide) inT3 tb_2_118 rfl dX11_whose_35 rfl ?_
        refine x_iload_n 39 C dX11_whose_38 rfl rfl rfl ?_
        refine x_iald 40 C rfl (lt79 (by decide)) dX11_whose_39 rfl (by omega) (by omega) (fun r39 => ?_)
        rw [hss] at r39 ⊢
        have hcons : slN (cT σ) - s = (slN (cT σ) - (s + 1)) + 1 := by omega
        refine x_iload_n 41 C dX11_whose_40 rfl rfl rfl ?_
        refine x_icmp_ne 46 44 C dX11_whose_41 rfl rfl (by omega) (by omega) (fun h41 => ?_) (fun h41 => ?_)
        · refine x_iinc_2 49 C dX11_whose_46 rfl rfl ?_
          refine x_goto 20 C dX11_whose_49 rfl ?_
          refine ih _ (by omega) (s + 1) _ rfl ⟨by omega, by omega, ?_⟩
          rw [hcons] at hf
          simp only [fstA] at hf
          rw [if_neg (by rw [decide_eq_true_eq, ← (k3 s (by omega)).1]; exact h41)] at hf
          exact hf
        refine x_iload_n 45 C dX11_whose_44 rfl rfl rfl ?_
        refine x_iret C T dX11_whose_45 ?_
        refine PI_i (by omega) ⟨?_, ?_⟩
        · first | exact Kp_refl σ | exact k1
        · unfold rWhose
          first
            | (rw [if_neg (by rw [cT_13]; omega)]; done)
            | (rw [if_pos (by rw [cT_13]; omega), ← hf]
               first
                 | (rw [hcons]
                    simp only [fstA]
                    rw [if_pos (by rw [decide_eq_true_eq, ← (k3 s (by omega)).1]; exact h41)])
                 | (rw [show slN (cT σ) - s = 0 by omega]; rfl))
    exact L20 _ 0 _ rfl ⟨by omega, rfl, rfl⟩
  refine x_bipush 10 C dX11_whose_8 rfl rfl ?_
  refine x_iret C T dX11_whose_10 ?_
  refine PI_i (by omega) ⟨?_, ?_⟩
  · first | exact Kp_refl σ | exact k1
  · unfold rWhose
    first
      | (rw [if_neg (by rw [cT_13]; omega)]; done)
      | (rw [if_pos (by rw [cT_13]; omega), ← hf]
         first
           | (rw [hcons]
              simp only [fstA]
              rw [if_pos (by rw [decide_eq_true_eq, ← (k3 s (by omega)).1]; exact h41)])
           | (rw [show slN (cT σ) - s = 0 by omega]; rfl))

set_option maxHeartbeats 4000000 in
set_option maxRecDepth 100000 in
theorem c_X11_left {l : Launch} {G : Gt} {ρ : Nat → Nat} {tc : Nat} {cl : Nat → Nat} {σ : Sig} {X : Nat → RuT} {v : Int} (hW : CW X tc cl σ) (hv : -2147483648 ≤ v ∧ v ≤ 2147483647) : MX l yX11_left cX11_left 2 (some .int) 6 150 G (NN tc) ρ (shp tc cl) [.ref (ρ 0), .int (iZ v)] σ (PI (fun z σ' => Kp 33 41 σ σ' ∧ z = rLeft X (cT σ) v)) := by
  refine MX_of [some (.ref (ρ 0)), some (.int (iZ v))] (by decide +kernel) rfl rfl (Nat.le_of_ble_eq_true rfl) ?_
  intro K hKl C T hRng
  subst hKl
  have hT := hW.1
  have h3 := hT.2.2.1
  have h8 := hT.2.2.2.1
  have hall := allT_in (X := X) (TI_cT hT)
  have J16 : ∀ (u : Unit), (v = -1 ∨ (0 ≤ v ∧ v < σ 1 8)) → Ex K G (NN tc) ρ (shp tc cl) 16 [some (.ref (ρ 0)), some (.int (iZ v))] [] σ := by
    intro u hinv
    have hvv := hinv
    refine x_aload_n 17 C dX11_left_16 rfl rfl rfl ?_
    refine x_getr (j := 7) 20 C rfl (lt79 (by decide)) rfl rfl (by decide) inT11 tb_2_180 rfl dX11_left_17 rfl ?_
    refine x_callVv 23 C dX11_left_20 rfl (c_X3_dawn hW) rfl (lt79 (by decide)) rfl tb_3_156 tb_3_157 tb_3_158 tb_1_18 tb_3_159 (na := 0) (by decide +kernel) rfl ⟨by decide, by decide⟩ rfl (Nat.le_of_ble_eq_true rfl) rfl (fun s20 hq20 hR20 => ?_)
    obtain ⟨k1, k2, k3⟩ := hq20
    have hW2 := CW_Kp hW k1 (by omega)
    have e18 : s20 1 8 = σ 1 8 := congrFun (k1 1 (by omega) (by omega)) 8
    have e12 : s20 1 2 = σ 1 2 := congrFun (k1 1 (by omega) (by omega)) 2
    have e9 : s20 9 = σ 9 := k1 9 (by omega) (by omega)
    have ecT : cT s20 = cT σ := Kp_cT k1 (by omega)
    refine x_iload_n 24 C dX11_left_23 rfl rfl rfl ?_
    refine x_iconst 25 C dX11_left_24 rfl ?_
    refine x_icmp_ne 38 28 C dX11_left_25 rfl rfl (by omega) (by omega) (fun h25 => ?_) (fun h25 => ?_)
    · obtain ⟨s, rfl⟩ : ∃ s : Nat, v = (s : Int) := ⟨v.toNat, by omega⟩
      have hss : (s : Int).toNat = s := Int.toNat_natCast s
      refine x_aload_n 39 C dX11_left_38 rfl rfl rfl ?_
      refine x_getr (j := 7) 42 C rfl (lt79 (by decide)) rfl rfl (by decide) inT11 tb_2_180 rfl dX11_left_39 rfl ?_
      refine x_iload_n 43 C dX11_left_42 rfl rfl rfl ?_
      refine x_callVi 46 C dX11_left_43 rfl (c_X3_leftOf (X := X) (s := s) hW2 (by omega) (HD_in hT k3 (by omega)).1) rfl (lt79 (by decide)) rfl tb_3_201 tb_3_191 tb_3_192 tb_1_18 tb_3_193 (na := 1) (by decide +kernel) rfl ⟨by decide, by decide⟩ rfl (Nat.le_of_ble_eq_true rfl) rfl (fun z43 s43 hz43 hq43 hR43 => ?_)
      obtain ⟨k4, k5⟩ := hq43
      rw [ecT, e9, HD_left k3 (by omega)] at k5
      refine x_iret C T dX11_left_46 ?_
      refine PI_i (by omega) ⟨?_, ?_⟩
      · first | exact Kp_refl σ | exact Kp_trans k1 (Kp_wide k4 (by omega) (by omega))
      · unfold rLeft
        first
          | (rw [if_neg (by omega), if_neg (by rw [cT_18]; omega)]; done)
          | (rw [if_pos (by omega)]; exact k5)
          | (rw [if_neg (by omega), if_pos (by rw [cT_18]; omega), hss]; exact k5)
    refine x_aload_n 29 C dX11_left_28 rfl rfl rfl ?_
    refine x_getr (j := 7) 32 C rfl (lt79 (by decide)) rfl rfl (by decide) inT11 tb_2_180 rfl dX11_left_29 rfl ?_
    refine x_callVi 35 C dX11_left_32 rfl (c_X3_leftOfAll (X := X) hW2 (fun s hs => (HD_in hT k3 (by omega)).1)) rfl (lt79 (by decide)) rfl tb_3_186 tb_3_187 tb_3_188 tb_1_18 tb_3_189 (na := 0) (by decide +kernel) rfl ⟨by decide, by decide⟩ rfl (Nat.le_of_ble_eq_true rfl) rfl (fun z32 s32 hz32 hq32 hR32 => ?_)
    obtain ⟨k4, k5⟩ := hq32
    rw [HD_all k3 e18 e9 e12] at k5
    refine x_goto 46 C dX11_left_35 rfl ?_
    refine x_iret C T dX11_left_46 ?_
    refine PI_i (by omega) ⟨?_, ?_⟩
    · first | exact Kp_refl σ | exact Kp_trans k1 (Kp_wide k4 (by omega) (by omega))
    · unfold rLeft
      first
        | (rw [if_neg (by omega), if_neg (by rw [cT_18]; omega)]; done)
        | (rw [if_pos (by omega)]; exact k5)
        | (rw [if_neg (by omega), if_pos (by rw [cT_18]; omega), hss]; exact k5)
  refine x_iload_n 1 C dX11_left_0 rfl rfl rfl ?_
  refine x_iconst 2 C dX11_left_1 rfl ?_
  refine x_icmp_eq 16 5 C dX11_left_2 rfl rfl (by omega) (by omega) (fun h2 => ?_) (fun h2 => ?_)
  · exact J16 () (by omega)
  refine x_aload_n 6 C dX11_left_5 rfl rfl rfl ?_
  refine x_iload_n 7 C dX11_left_6 rfl rfl rfl ?_
  refine x_callVe 10 C dX11_left_7 rfl (c_X11_isSleeper (by omega)) rfl (lt79 (by decide)) rfl tb_3_54 tb_3_56 tb_0_16 tb_1_1 tb_3_57 (na := 1) (by decide +kernel) rfl ⟨by decide, by decide⟩ rfl (Nat.le_of_ble_eq_true rfl) rfl (fun r7 => ?_)
  first
    | refine x_ifb_ne 16 13 C dX11_left_10 rfl rfl (fun h10 => ?_) (fun h10 => ?_)
    | refine x_if_ne 16 13 C dX11_left_10 rfl rfl (by omega) (fun h10 => ?_) (fun h10 => ?_)
  · exact J16 () (by omega)
  refine x_ldcN (z := -100000) 15 C tb_3_185 (by decide) dX11_left_13 rfl ?_
  refine x_iret C T dX11_left_15 ?_
  refine PI_i (by omega) ⟨?_, ?_⟩
  · first | exact Kp_refl σ | exact Kp_trans k1 (Kp_wide k4 (by omega) (by omega))
  · unfold rLeft
    first
      | (rw [if_neg (by omega), if_neg (by rw [cT_18]; omega)]; done)
      | (rw [if_pos (by omega)]; exact k5)
      | (rw [if_neg (by omega), if_pos (by rw [cT_18]; omega), hss]; exact k5)
