/-! the model's parser: where it stands -/
def FM (σ σ' : Sig) : Prop := (∀ a b, a ≠ 51 → a ≠ 1051 → σ' a b = σ a b) ∧ (∀ b, b < 27 ∨ 33 < b → σ' 51 b = σ 51 b)
theorem FM_refl (σ : Sig) : FM σ σ := ⟨fun _ _ _ _ => rfl, fun _ _ => rfl⟩
theorem FM_trans {σ s1 s2 : Sig} (h : FM σ s1) (h2 : FM s1 s2) : FM σ s2 := ⟨fun a b h3 h4 => (h2.1 a b h3 h4).trans (h.1 a b h3 h4), fun b h3 => (h2.2 b h3).trans (h.2 b h3)⟩
theorem FMn_FM {σ s1 : Sig} (h : FMn σ s1) : FM σ s1 := ⟨h.1, fun b h3 => h.2 b (by omega) (by omega) (by omega)⟩
theorem FM_up {σ s : Sig} {i : Nat} {v : Int} (h : FM σ s) (hi : 27 ≤ i ∧ i ≤ 33) : FM σ (up s 51 i v) := ⟨fun a b h1 h2 => by rw [up_r h1]; exact h.1 a b h1 h2, fun b h1 => by rw [up_i (by omega)]; exact h.2 b h1⟩
theorem FM_bM {σ s : Sig} {F : Nat} (h : FM σ s) : bM s F = bM σ F := funext fun i => h.1 52 _ (by omega) (by omega)
theorem HG_FM {σ s : Sig} {F n : Nat} (hG : HG F n σ) (h : FM σ s) : HG F n s := ⟨(h.2 25 (by omega)).trans hG.1, (h.2 26 (by omega)).trans hG.2.1, hG.2.2.1, hG.2.2.2.1, fun i hi => by rw [h.1 52 _ (by omega) (by omega)]; exact hG.2.2.2.2 i hi⟩
/-- the word that stands there, 12 if it is none -/
def wj (b : Nat → Int) (n p : Nat) : Nat := if kM b n p = 1 then wIdx b (lxA b n p) (runF bL b (n - lxA b n p) (lxA b n p)) else 12
theorem kM_cases (b : Nat → Int) (n p : Nat) : (kM b n p = 0 ∧ lxT b n p = 0 ∧ wj b n p = 12) ∨ (kM b n p = 1 ∧ lxA b n p < n ∧ bL (b (lxA b n p)) = true ∧ lxE b n p = lxA b n p + runF bL b (n - lxA b n p) (lxA b n p) ∧ wj b n p = wIdx b (lxA b n p) (runF bL b (n - lxA b n p) (lxA b n p)) ∧ lxV b n p = wj b n p ∧ ((wj b n p < 6 ∧ lxT b n p = 3) ∨ (6 ≤ wj b n p ∧ wj b n p < 12 ∧ lxT b n p = (wj b n p : Int) - 2) ∨ (wj b n p = 12 ∧ lxT b n p = 1))) ∨ (kM b n p = 2 ∧ lxT b n p = 2 ∧ wj b n p = 12) ∨ (kM b n p = 3 ∧ lxT b n p = b (lxA b n p) ∧ bS (b (lxA b n p)) = true ∧ wj b n p = 12) ∨ (kM b n p = 4 ∧ lxT b n p = 1 ∧ wj b n p = 12) := by
  by_cases h0 : n ≤ lxA b n p
  · have e : kM b n p = 0 := by unfold kM; rw [if_pos h0]
    exact Or.inl ⟨e, by unfold lxT; dsimp only; rw [if_pos h0], by unfold wj; rw [if_neg (by omega)]⟩
  by_cases h1 : bL (b (lxA b n p)) = true
  · have e : kM b n p = 1 := by unfold kM; rw [if_neg h0, if_pos h1]
    have ew : wj b n p = wIdx b (lxA b n p) (runF bL b (n - lxA b n p) (lxA b n p)) := by unfold wj; rw [if_pos e]
    have hle := wIdx_le b (lxA b n p) (runF bL b (n - lxA b n p) (lxA b n p))
    refine Or.inr (Or.inl ⟨e, by omega, h1, by unfold lxE; dsimp only; rw [if_neg h0, if_pos h1], ew, by unfold lxV; dsimp only; rw [if_pos h1, ew], ?_⟩)
    have et : lxT b n p = (if wj b n p < 6 then 3 else if wj b n p < 12 then (wj b n p : Int) - 2 else 1) := by rw [ew]; unfold lxT; dsimp only; rw [if_neg h0, if_pos h1]
    rw [← ew] at hle
    by_cases h6 : wj b n p < 6
    · rw [if_pos h6] at et; exact Or.inl ⟨h6, et⟩
    · rw [if_neg h6] at et
      by_cases h12 : wj b n p < 12
      · rw [if_pos h12] at et; exact Or.inr (Or.inl ⟨by omega, h12, et⟩)
      · rw [if_neg h12] at et; exact Or.inr (Or.inr ⟨by omega, et⟩)
  by_cases h2 : bD (b (lxA b n p)) = true
  · by_cases h4 : runF bD b (n - lxA b n p) (lxA b n p) ≤ 4
    · have e : kM b n p = 2 := by unfold kM; rw [if_neg h0, if_neg h1, if_pos h2, if_pos h4]
      exact Or.inr (Or.inr (Or.inl ⟨e, by unfold lxT; dsimp only; rw [if_neg h0, if_neg h1, if_pos h2, if_pos h4], by unfold wj; rw [if_neg (by omega)]⟩))
    · have e : kM b n p = 4 := by unfold kM; rw [if_neg h0, if_neg h1, if_pos h2, if_neg h4]
      exact Or.inr (Or.inr (Or.inr (Or.inr ⟨e, by unfold lxT; dsimp only; rw [if_neg h0, if_neg h1, if_pos h2, if_neg h4], by unfold wj; rw [if_neg (by omega)]⟩)))
  by_cases h3 : bS (b (lxA b n p)) = true
  · have e : kM b n p = 3 := by unfold kM; rw [if_neg h0, if_neg h1, if_neg h2, if_pos h3]
    exact Or.inr (Or.inr (Or.inr (Or.inl ⟨e, by unfold lxT; dsimp only; rw [if_neg h0, if_neg h1, if_neg h2, if_pos h3], h3, by unfold wj; rw [if_neg (by omega)]⟩)))
  · have e : kM b n p = 4 := by unfold kM; rw [if_neg h0, if_neg h1, if_neg h2, if_neg h3]
    exact Or.inr (Or.inr (Or.inr (Or.inr ⟨e, by unfold lxT; dsimp only; rw [if_neg h0, if_neg h1, if_neg h2, if_neg h3], by unfold wj; rw [if_neg (by omega)]⟩)))
theorem bS_in {x : Int} (h : bS x = true) : 40 ≤ x ∧ x ≤ 61 := by
  unfold bS at h
  rw [decide_eq_true_eq] at h
  omega
/-- not bad, at p, so many open -/
def MSt (σ0 : Sig) (F n p : Nat) (u : Int) (s : Sig) : Prop := HG F n σ0 ∧ p ≤ n ∧ FM σ0 s ∧ LMs (bM σ0 F) n p s ∧ s 51 32 = 0 ∧ s 51 31 = u
def MBad (σ0 : Sig) (a : Nat) (u : Int) (s : Sig) : Prop := FM σ0 s ∧ s 51 32 = 1 ∧ s 51 33 = a ∧ s 51 31 = u
/-- what the model sees as the token at hand: a sign's byte or a key, a word's number -/
def CT (σ0 : Sig) (F n : Nat) (u : Int) (s : Sig) (T W : Int) : Prop := (∃ p, MSt σ0 F n p u s ∧ T = lxT (bM σ0 F) n p ∧ W = wj (bM σ0 F) n p) ∨ (s 51 32 = 1 ∧ T = -1 ∧ W = -1)
theorem CT_good {σ0 s : Sig} {F n p : Nat} {u : Int} (h : MSt σ0 F n p u s) : CT σ0 F n u s (lxT (bM σ0 F) n p) (wj (bM σ0 F) n p) := Or.inl ⟨p, h, rfl, rfl⟩
theorem CT_bad {σ0 s : Sig} {F n a : Nat} {u : Int} (h : MBad σ0 a u s) : CT σ0 F n u s (-1) (-1) := Or.inr ⟨h.2.1, rfl, rfl⟩
theorem CT_sign {σ0 s : Sig} {F n : Nat} {u T W : Int} (h : CT σ0 F n u s T W) : (s 51 32 = 1 ∧ T = -1) ∨ (s 51 32 = 0 ∧ ((s 51 28 = 3 ∧ s 1051 30 = T ∧ 40 ≤ T ∧ T ≤ 61) ∨ (s 51 28 ≠ 3 ∧ T < 40))) := by
  rcases h with ⟨p, h, rfl, rfl⟩ | h
  · refine Or.inr ⟨h.2.2.2.2.1, ?_⟩
    obtain ⟨k1, k2, k3, k4, k5⟩ := h.2.2.2.1
    rcases kM_cases (bM σ0 F) n p with c | c | c | c | c
    · exact Or.inr ⟨by omega, by omega⟩
    · refine Or.inr ⟨by omega, ?_⟩
      rcases c.2.2.2.2.2.2 with d | d | d <;> omega
    · exact Or.inr ⟨by omega, by omega⟩
    · have := bS_in c.2.2.1
      exact Or.inl ⟨by omega, by rw [k5 c.1, c.2.1], by omega, by omega⟩
    · exact Or.inr ⟨by omega, by omega⟩
  · exact Or.inl ⟨h.1, h.2.1⟩
theorem CT_word {σ0 s : Sig} {F n : Nat} {u T W : Int} (h : CT σ0 F n u s T W) : (s 51 32 = 1 ∧ W = -1) ∨ (s 51 32 = 0 ∧ s 51 28 ≠ 1 ∧ W = 12) ∨ (s 51 32 = 0 ∧ s 51 28 = 1 ∧ ∃ a e : Nat, s 51 29 = a ∧ s 51 27 = e ∧ a ≤ e ∧ e ≤ n ∧ HG F n s ∧ W = (wIdx (bM s F) a (e - a) : Nat) ∧ ∀ i, a + i < e → 97 ≤ bM s F (a + i)) := by
  rcases h with ⟨p, h, rfl, rfl⟩ | h
  · obtain ⟨k1, k2, k3, k4, k5⟩ := h.2.2.2.1
    rcases kM_cases (bM σ0 F) n p with c | c | c | c | c
    · exact Or.inr (Or.inl ⟨h.2.2.2.2.1, by omega, by omega⟩)
    · refine Or.inr (Or.inr ⟨h.2.2.2.2.1, by omega, lxA (bM σ0 F) n p, lxE (bM σ0 F) n p, k1, k3 (by omega), lxE_ge _ _ _, lxE_le h.2.1, HG_FM h.1 h.2.2.1, ?_, ?_⟩)
      · rw [FM_bM h.2.2.1, c.2.2.2.2.1, c.2.2.2.1]
        rw [show lxA (bM σ0 F) n p + runF bL (bM σ0 F) (n - lxA (bM σ0 F) n p) (lxA (bM σ0 F) n p) - lxA (bM σ0 F) n p = runF bL (bM σ0 F) (n - lxA (bM σ0 F) n p) (lxA (bM σ0 F) n p) by omega]
      · intro i hi
        rw [FM_bM h.2.2.1]
        rw [c.2.2.2.1] at hi
        have := runF_in (q := bL) (b := bM σ0 F) _ _ i (show i < runF bL (bM σ0 F) (n - lxA (bM σ0 F) n p) (lxA (bM σ0 F) n p) by omega)
        unfold bL at this
        rw [decide_eq_true_eq] at this
        exact this.1
    · exact Or.inr (Or.inl ⟨h.2.2.2.2.1, by omega, by omega⟩)
    · exact Or.inr (Or.inl ⟨h.2.2.2.2.1, by omega, by omega⟩)
    · exact Or.inr (Or.inl ⟨h.2.2.2.2.1, by omega, by omega⟩)
  · exact Or.inl ⟨h.1, h.2.2⟩
abbrev PW (b : Nat → Int) (a e i : Nat) (c : Int) : Prop := (a + i < e ∧ b (a + i) = c) ∨ (¬ a + i < e ∧ c = 0)
theorem w_len : ∀ j, j < 12 → (wordsL.getD j []).length ≤ 6 ∧ ∀ i, i < 8 → ((wordsL.getD j []).getD i 0 = 0 ↔ ¬ i < (wordsL.getD j []).length) := by decide +kernel
theorem wd_to {b : Nat → Int} {a e j : Nat} (hj : j < 12) (hae : a ≤ e) (h8 : e ≤ a + 8) (hb : ∀ i, a + i < e → 97 ≤ b (a + i)) (h : ∀ i, i < 8 → PW b a e i ((wordsL.getD j []).getD i 0)) : wIdx b a (e - a) = j := by
  obtain ⟨h6, hz⟩ := w_len j hj
  refine wIdx_at hj (spel_iff.mpr ⟨?_, fun i hi => ?_⟩)
  · apply Nat.le_antisymm
    · apply Nat.le_of_not_lt
      intro hlt
      rcases h (wordsL.getD j []).length (by omega) with ⟨h1, h2⟩ | ⟨h1, h2⟩
      · have := hb _ h1
        have := (hz (wordsL.getD j []).length (by omega)).mpr (by omega)
        omega
      · omega
    · apply Nat.le_of_not_lt
      intro hlt
      rcases h (e - a) (by omega) with ⟨h1, h2⟩ | ⟨h1, h2⟩
      · omega
      · have := (hz (e - a) (by omega)).mp h2
        omega
  · rcases h i (by omega) with ⟨h1, h2⟩ | ⟨h1, h2⟩
    · exact h2
    · omega
theorem wd_of {b : Nat → Int} {a e j : Nat} (hj : j < 12) (hae : a ≤ e) (h : wIdx b a (e - a) = j) : e ≤ a + 8 ∧ ∀ i, i < 8 → PW b a e i ((wordsL.getD j []).getD i 0) := by
  obtain ⟨h6, hz⟩ := w_len j hj
  have hlt : wIdx b a (e - a) < wordsL.length := by rw [h]; exact hj
  have hp : spel b a (e - a) (wordsL.getD (wIdx b a (e - a)) []) = true := by
    have := List.findIdx_getElem (xs := wordsL) (p := spel b a (e - a)) (w := hlt)
    rw [List.getD_eq_getElem?_getD, List.getElem?_eq_getElem hlt]
    exact this
  rw [h] at hp
  obtain ⟨h1, h2⟩ := spel_iff.mp hp
  refine ⟨by omega, fun i hi => ?_⟩
  by_cases hie : a + i < e
  · exact Or.inl ⟨hie, h2 i (by omega)⟩
  · exact Or.inr ⟨hie, (hz i hi).mpr (by omega)⟩
set_option maxHeartbeats 4000000 in
set_option maxRecDepth 100000 in
theorem c_X12_isSign {l : Launch} {G : Gt} {ρ : Nat → Nat} {tc : Nat} {cl : Nat → Nat} {σ : Sig} {σ0 : Sig} {F n : Nat} {u T W t : Int} (hT : CT σ0 F n u σ T W) (ht : 40 ≤ t ∧ t ≤ 61) : MX l yX12_isSign cX12_isSign 2 (some .boolean) 0 0 G (NN tc) ρ (shp tc cl) [.ref (ρ 51), .int (iZ t)] σ (PE σ (b2 (T = t))) := by
  refine MX_of [some (.ref (ρ 51)), some (.int (iZ t))] (by decide +kernel) rfl rfl (Nat.le_of_ble_eq_true rfl) ?_
  intro K hKl C T hRng
  subst hKl
  have hc := CT_sign hT
  have e51 : σ (51 + 1000) 30 = σ 1051 30 := rfl
  refine x_aload_n 1 C dX12_isSign_0 rfl rfl rfl ?_
  refine x_geti (j := 32) 4 C rfl (lt79 (by decide)) rfl rfl (by decide) inT12 tb_4_166 rfl dX12_isSign_1 rfl (fun r1 => ?_)
  first
    | refine x_ifb_ne 29 7 C dX12_isSign_4 rfl rfl (fun h4 => ?_) (fun h4 => ?_)
    | refine x_if_ne 29 7 C dX12_isSign_4 rfl rfl (by omega) (fun h4 => ?_) (fun h4 => ?_)
  · refine x_iconst 30 C dX12_isSign_29 rfl ?_
    refine x_zret C T dX12_isSign_30 (by omega) ?_
    exact PE_i (by unfold b2; split <;> omega) (by omega)
  refine x_aload_n 8 C dX12_isSign_7 rfl rfl rfl ?_
  refine x_geti (j := 28) 11 C rfl (lt79 (by decide)) rfl rfl (by decide) inT12 tb_4_162 rfl dX12_isSign_8 rfl (fun r8 => ?_)
  refine x_iconst 12 C dX12_isSign_11 rfl ?_
  refine x_icmp_ne 29 15 C dX12_isSign_12 rfl rfl (by omega) (by omega) (fun h12 => ?_) (fun h12 => ?_)
  · refine x_iconst 30 C dX12_isSign_29 rfl ?_
    refine x_zret C T dX12_isSign_30 (by omega) ?_
    exact PE_i (by unfold b2; split <;> omega) (by omega)
  refine x_aload_n 16 C dX12_isSign_15 rfl rfl rfl ?_
  refine x_getl (j := 30) 19 C rfl (lt79 (by decide)) rfl rfl (by decide) inT12 tb_4_164 rfl dX12_isSign_16 rfl ?_
  refine x_iload_n 20 C dX12_isSign_19 rfl rfl rfl ?_
  refine x_i2l 21 C dX12_isSign_20 rfl (by omega) ?_
  refine x_lcmp 22 C dX12_isSign_21 rfl (by omega) (by omega) ?_
  refine x_lif_ne 29 25 C dX12_isSign_22 rfl rfl (fun h22 => ?_) (fun h22 => ?_)
  · refine x_iconst 30 C dX12_isSign_29 rfl ?_
    refine x_zret C T dX12_isSign_30 (by omega) ?_
    exact PE_i (by unfold b2; split <;> omega) (by omega)
  refine x_iconst 26 C dX12_isSign_25 rfl ?_
  refine x_goto 30 C dX12_isSign_26 rfl ?_
  refine x_zret C T dX12_isSign_30 (by omega) ?_
  exact PE_i (by unfold b2; split <;> omega) (by omega)

set_option maxHeartbeats 4000000 in
set_option maxRecDepth 100000 in
theorem c_X12_isLetter {l : Launch} {G : Gt} {ρ : Nat → Nat} {tc : Nat} {cl : Nat → Nat} {σ : Sig} {F n a e i : Nat} {x c : Int} (hG : HG F n σ) (ha : σ 51 29 = a) (he : σ 51 27 = e) (hae : a ≤ e) (hen : e ≤ n) (hi : i < 8) (hx : x = i) (hc : -2147483648 ≤ c ∧ c ≤ 2147483647) : MX l yX12_isLetter cX12_isLetter 3 (some .boolean) 1 21 G (NN tc) ρ (shp tc cl) [.ref (ρ 51), .int (iZ x), .int (iZ c)] σ (PE σ (b2 (PW (bM σ F) a e i c))) := by
  refine MX_of [some (.ref (ρ 51)), some (.int (iZ x)), some (.int (iZ c))] (by decide +kernel) rfl rfl (Nat.le_of_ble_eq_true rfl) ?_
  intro K hKl C T hRng
  subst hKl
  have h3 := hG.2.2.1
  subst hx
  refine x_aload_n 1 C dX12_isLetter_0 rfl rfl rfl ?_
  refine x_geti (j := 29) 4 C rfl (lt79 (by decide)) rfl rfl (by decide) inT12 tb_4_163 rfl dX12_isLetter_1 rfl (fun r1 => ?_)
  refine x_iload_n 5 C dX12_isLetter_4 rfl rfl rfl ?_
  refine x_iadd 6 C dX12_isLetter_5 rfl ?_
  refine x_aload_n 7 C dX12_isLetter_6 rfl rfl rfl ?_
  refine x_geti (j := 27) 10 C rfl (lt79 (by decide)) rfl rfl (by decide) inT12 tb_4_161 rfl dX12_isLetter_7 rfl (fun r7 => ?_)
  refine x_icmp_ge 35 13 C dX12_isLetter_10 rfl rfl (by omega) (by omega) (fun h10 => ?_) (fun h10 => ?_)
  · refine x_iload_n 36 C dX12_isLetter_35 rfl rfl rfl ?_
    first
      | refine x_ifb_ne 43 39 C dX12_isLetter_36 rfl rfl (fun h36 => ?_) (fun h36 => ?_)
      | refine x_if_ne 43 39 C dX12_isLetter_36 rfl rfl (by omega) (fun h36 => ?_) (fun h36 => ?_)
    · refine x_iconst 44 C dX12_isLetter_43 rfl ?_
      refine x_zret C T dX12_isLetter_44 (by omega) ?_
      refine PE_i ?_ (by omega)
      first | (rw [b2_t (Or.inl ⟨by omega, by omega⟩)]; done) | (rw [b2_t (Or.inr ⟨by omega, by omega⟩)]; done) | rw [b2_f (fun h => by rcases h with ⟨h1, h2⟩ | ⟨h1, h2⟩ <;> omega)]
    refine x_iconst 40 C dX12_isLetter_39 rfl ?_
    refine x_goto 44 C dX12_isLetter_40 rfl ?_
    refine x_zret C T dX12_isLetter_44 (by omega) ?_
    refine PE_i ?_ (by omega)
    first | (rw [b2_t (Or.inl ⟨by omega, by omega⟩)]; done) | (rw [b2_t (Or.inr ⟨by omega, by omega⟩)]; done) | rw [b2_f (fun h => by rcases h with ⟨h1, h2⟩ | ⟨h1, h2⟩ <;> omega)]
  refine x_aload_n 14 C dX12_isLetter_13 rfl rfl rfl ?_
  refine x_aload_n 15 C dX12_isLetter_14 rfl rfl rfl ?_
  refine x_geti (j := 29) 18 C rfl (lt79 (by decide)) rfl rfl (by decide) inT12 tb_4_163 rfl dX12_isLetter_15 rfl (fun r15 => ?_)
  refine x_iload_n 19 C dX12_isLetter_18 rfl rfl rfl ?_
  refine x_iadd 20 C dX12_isLetter_19 rfl ?_
  refine x_callVe 23 C dX12_isLetter_20 rfl (c_X12_byteAt (F := F) (n := n) (i := a + i) hG (by omega) (by omega)) rfl (lt79 (by decide)) rfl tb_5_137 tb_5_139 tb_0_42 tb_1_20 tb_5_140 (na := 1) (by decide +kernel) rfl ⟨by decide, by decide⟩ rfl (Nat.le_of_ble_eq_true rfl) rfl (fun r20 => ?_)
  rw [byM_lt (by omega)] at *
  refine x_iload_n 24 C dX12_isLetter_23 rfl rfl rfl ?_
  refine x_icmp_ne 31 27 C dX12_isLetter_24 rfl rfl (by omega) (by omega) (fun h24 => ?_) (fun h24 => ?_)
  · refine x_iconst 32 C dX12_isLetter_31 rfl ?_
    refine x_goto 44 C dX12_isLetter_32 rfl ?_
    refine x_zret C T dX12_isLetter_44 (by omega) ?_
    refine PE_i ?_ (by omega)
    first | (rw [b2_t (Or.inl ⟨by omega, by omega⟩)]; done) | (rw [b2_t (Or.inr ⟨by omega, by omega⟩)]; done) | rw [b2_f (fun h => by rcases h with ⟨h1, h2⟩ | ⟨h1, h2⟩ <;> omega)]
  refine x_iconst 28 C dX12_isLetter_27 rfl ?_
  refine x_goto 44 C dX12_isLetter_28 rfl ?_
  refine x_zret C T dX12_isLetter_44 (by omega) ?_
  refine PE_i ?_ (by omega)
  first | (rw [b2_t (Or.inl ⟨by omega, by omega⟩)]; done) | (rw [b2_t (Or.inr ⟨by omega, by omega⟩)]; done) | rw [b2_f (fun h => by rcases h with ⟨h1, h2⟩ | ⟨h1, h2⟩ <;> omega)]

set_option maxHeartbeats 4000000 in
set_option maxRecDepth 100000 in
theorem c_X12_isWord {l : Launch} {G : Gt} {ρ : Nat → Nat} {tc : Nat} {cl : Nat → Nat} {σ : Sig} {σ0 : Sig} {F n j : Nat} {u T W a0 a1 a2 a3 a4 a5 a6 a7 : Int} (hT : CT σ0 F n u σ T W) (hj : j < 12) (hw : ∀ i, i < 8 → ([a0, a1, a2, a3, a4, a5, a6, a7] : List Int).getD i 0 = (wordsL.getD j []).getD i 0) (hr : (-2147483648 ≤ a0 ∧ a0 ≤ 2147483647) ∧ (-2147483648 ≤ a1 ∧ a1 ≤ 2147483647) ∧ (-2147483648 ≤ a2 ∧ a2 ≤ 2147483647) ∧ (-2147483648 ≤ a3 ∧ a3 ≤ 2147483647) ∧ (-2147483648 ≤ a4 ∧ a4 ≤ 2147483647) ∧ (-2147483648 ≤ a5 ∧ a5 ≤ 2147483647) ∧ (-2147483648 ≤ a6 ∧ a6 ≤ 2147483647) ∧ (-2147483648 ≤ a7 ∧ a7 ≤ 2147483647)) : MX l yX12_isWord cX12_isWord 9 (some .boolean) 2 43 G (NN tc) ρ (shp tc cl) [.ref (ρ 51), .int (iZ a0), .int (iZ a1), .int (iZ a2), .int (iZ a3), .int (iZ a4), .int (iZ a5), .int (iZ a6), .int (iZ a7)] σ (PE σ (b2 (W = j))) := by
  refine MX_of [some (.ref (ρ 51)), some (.int (iZ a0)), some (.int (iZ a1)), some (.int (iZ a2)), some (.int (iZ a3)), some (.int (iZ a4)), some (.int (iZ a5)), some (.int (iZ a6)), some (.int (iZ a7))] (by decide +kernel) rfl rfl (Nat.le_of_ble_eq_true rfl) ?_
  intro K hKl C T hRng
  subst hKl
  have hc := CT_word hT
  have w0 : a0 = (wordsL.getD j []).getD 0 0 := hw 0 (by omega)
  have w1 : a1 = (wordsL.getD j []).getD 1 0 := hw 1 (by omega)
  have w2 : a2 = (wordsL.getD j []).getD 2 0 := hw 2 (by omega)
  have w3 : a3 = (wordsL.getD j []).getD 3 0 := hw 3 (by omega)
  have w4 : a4 = (wordsL.getD j []).getD 4 0 := hw 4 (by omega)
  have w5 : a5 = (wordsL.getD j []).getD 5 0 := hw 5 (by omega)
  have w6 : a6 = (wordsL.getD j []).getD 6 0 := hw 6 (by omega)
  have w7 : a7 = (wordsL.getD j []).getD 7 0 := hw 7 (by omega)
  refine x_aload_n 1 C dX12_isWord_0 rfl rfl rfl ?_
  refine x_geti (j := 32) 4 C rfl (lt79 (by decide)) rfl rfl (by decide) inT12 tb_4_166 rfl dX12_isWord_1 rfl (fun r1 => ?_)
  first
    | refine x_ifb_ne 112 7 C dX12_isWord_4 rfl rfl (fun h4 => ?_) (fun h4 => ?_)
    | refine x_if_ne 112 7 C dX12_isWord_4 rfl rfl (by omega) (fun h4 => ?_) (fun h4 => ?_)
  · have hWj : ¬ W = j := by rcases hc with h | h | h <;> omega
    refine x_iconst 113 C dX12_isWord_112 rfl ?_
    refine x_zret C T dX12_isWord_113 (by omega) ?_
    exact PE_i (by first | rw [b2_f hWj] | rw [b2_t hWj]) (by omega)
  refine x_aload_n 8 C dX12_isWord_7 rfl rfl rfl ?_
  refine x_geti (j := 28) 11 C rfl (lt79 (by decide)) rfl rfl (by decide) inT12 tb_4_162 rfl dX12_isWord_8 rfl (fun r8 => ?_)
  refine x_iconst 12 C dX12_isWord_11 rfl ?_
  refine x_icmp_ne 112 15 C dX12_isWord_12 rfl rfl (by omega) (by omega) (fun h12 => ?_) (fun h12 => ?_)
  · have hWj : ¬ W = j := by rcases hc with h | h | h <;> omega
    refine x_iconst 113 C dX12_isWord_112 rfl ?_
    refine x_zret C T dX12_isWord_113 (by omega) ?_
    exact PE_i (by first | rw [b2_f hWj] | rw [b2_t hWj]) (by omega)
  obtain ⟨a, e, ha, he, hae, hen, hG, hW, hb⟩ : ∃ a e : Nat, σ 51 29 = a ∧ σ 51 27 = e ∧ a ≤ e ∧ e ≤ n ∧ HG F n σ ∧ W = (wIdx (bM σ F) a (e - a) : Nat) ∧ ∀ i, a + i < e → 97 ≤ bM σ F (a + i) := by
    rcases hc with h | h | h
    · omega
    · omega
    · exact h.2.2
  clear hc
  have hn160 := hG.2.2.1
  refine x_aload_n 16 C dX12_isWord_15 rfl rfl rfl ?_
  refine x_geti (j := 27) 19 C rfl (lt79 (by decide)) rfl rfl (by decide) inT12 tb_4_161 rfl dX12_isWord_16 rfl (fun r16 => ?_)
  refine x_aload_n 20 C dX12_isWord_19 rfl rfl rfl ?_
  refine x_geti (j := 29) 23 C rfl (lt79 (by decide)) rfl rfl (by decide) inT12 tb_4_163 rfl dX12_isWord_20 rfl (fun r20 => ?_)
  refine x_bipush 25 C dX12_isWord_23 rfl rfl ?_
  refine x_iadd 26 C dX12_isWord_25 rfl ?_
  refine x_icmp_gt 112 29 C dX12_isWord_26 rfl rfl (by omega) (by omega) (fun h26 => ?_) (fun h26 => ?_)
  · have hWj : ¬ W = j := fun h => by have := (wd_of hj hae (by omega : wIdx (bM σ F) a (e - a) = j)).1; omega
    refine x_iconst 113 C dX12_isWord_112 rfl ?_
    refine x_zret C T dX12_isWord_113 (by omega) ?_
    exact PE_i (by first | rw [b2_f hWj] | rw [b2_t hWj]) (by omega)
  refine x_aload_n 30 C dX12_isWord_29 rfl rfl rfl ?_
  refine x_iconst 31 C dX12_isWord_30 rfl ?_
  refine x_iload_n 32 C dX12_isWord_31 rfl rfl rfl ?_
  refine x_callVe 35 C dX12_isWord_32 rfl (c_X12_isLetter (i := 0) hG ha he hae hen (by omega) rfl (by omega)) rfl (lt79 (by decide)) rfl tb_5_150 tb_5_152 tb_0_44 tb_1_20 tb_5_153 (na := 2) (by decide +kernel) rfl ⟨by decide, by decide⟩ rfl (Nat.le_of_ble_eq_true rfl) rfl (fun r32 => ?_)
  first
    | refine x_ifb_eq 112 38 C dX12_isWord_35 rfl rfl (fun h35 => ?_) (fun h35 => ?_)
    | refine x_if_eq 112 38 C dX12_isWord_35 rfl rfl (by omega) (fun h35 => ?_) (fun h35 => ?_)
  · have hWj : ¬ W = j := fun h => h35 (by have := (wd_of hj hae (by omega : wIdx (bM σ F) a (e - a) = j)).2 0 (by omega); rw [← w0] at this; exact this)
    refine x_iconst 113 C dX12_isWord_112 rfl ?_
    refine x_zret C T dX12_isWord_113 (by omega) ?_
    exact PE_i (by first | rw [b2_f hWj] | rw [b2_t hWj]) (by omega)
  refine x_aload_n 39 C dX12_isWord_38 rfl rfl rfl ?_
  refine x_iconst 40 C dX12_isWord_39 rfl ?_
  refine x_iload_n 41 C dX12_isWord_40 rfl rfl rfl ?_
  refine x_callVe 44 C dX12_isWord_41 rfl (c_X12_isLetter (i := 1) hG ha he hae hen (by omega) rfl (by omega)) rfl (lt79 (by decide)) rfl tb_5_150 tb_5_152 tb_0_44 tb_1_20 tb_5_153 (na := 2) (by decide +kernel) rfl ⟨by decide, by decide⟩ rfl (Nat.le_of_ble_eq_true rfl) rfl (fun r41 => ?_)
  first
    | refine x_ifb_eq 112 47 C dX12_isWord_44 rfl rfl (fun h44 => ?_) (fun h44 => ?_)
    | refine x_if_eq 112 47 C dX12_isWord_44 rfl rfl (by omega) (fun h44 => ?_) (fun h44 => ?_)
  · have hWj : ¬ W = j := fun h => h44 (by have := (wd_of hj hae (by omega : wIdx (bM σ F) a (e - a) = j)).2 1 (by omega); rw [← w1] at this; exact this)
    refine x_iconst 113 C dX12_isWord_112 rfl ?_
    refine x_zret C T dX12_isWord_113 (by omega) ?_
    exact PE_i (by first | rw [b2_f hWj] | rw [b2_t hWj]) (by omega)
  refine x_aload_n 48 C dX12_isWord_47 rfl rfl rfl ?_
  refine x_iconst 49 C dX12_isWord_48 rfl ?_
  refine x_iload_n 50 C dX12_isWord_49 rfl rfl rfl ?_
  refine x_callVe 53 C dX12_isWord_50 rfl (c_X12_isLetter (i := 2) hG ha he hae hen (by omega) rfl (by omega)) rfl (lt79 (by decide)) rfl tb_5_150 tb_5_152 tb_0_44 tb_1_20 tb_5_153 (na := 2) (by decide +kernel) rfl ⟨by decide, by decide⟩ rfl (Nat.le_of_ble_eq_true rfl) rfl (fun r50 => ?_)
  first
    | refine x_ifb_eq 112 56 C dX12_isWord_53 rfl rfl (fun h53 => ?_) (fun h53 => ?_)
    | refine x_if_eq 112 56 C dX12_isWord_53 rfl rfl (by omega) (fun h53 => ?_) (fun h53 => ?_)
  · have hWj : ¬ W = j := fun h => h53 (by have := (wd_of hj hae (by omega : wIdx (bM σ F) a (e - a) = j)).2 2 (by omega); rw [← w2] at this; exact this)
    refine x_iconst 113 C dX12_isWord_112 rfl ?_
    refine x_zret C T dX12_isWord_113 (by omega) ?_
    exact PE_i (by first | rw [b2_f hWj] | rw [b2_t hWj]) (by omega)
  refine x_aload_n 57 C dX12_isWord_56 rfl rfl rfl ?_
  refine x_iconst 58 C dX12_isWord_57 rfl ?_
  refine x_iload 60 C dX12_isWord_58 rfl rfl ?_
  refine x_callVe 63 C dX12_isWord_60 rfl (c_X12_isLetter (i := 3) hG ha he hae hen (by omega) rfl (by omega)) rfl (lt79 (by decide)) rfl tb_5_150 tb_5_152 tb_0_44 tb_1_20 tb_5_153 (na := 2) (by decide +kernel) rfl ⟨by decide, by decide⟩ rfl (Nat.le_of_ble_eq_true rfl) rfl (fun r60 => ?_)
  first
    | refine x_ifb_eq 112 66 C dX12_isWord_63 rfl rfl (fun h63 => ?_) (fun h63 => ?_)
    | refine x_if_eq 112 66 C dX12_isWord_63 rfl rfl (by omega) (fun h63 => ?_) (fun h63 => ?_)
  · have hWj : ¬ W = j := fun h => h63 (by have := (wd_of hj hae (by omega : wIdx (bM σ F) a (e - a) = j)).2 3 (by omega); rw [← w3] at this; exact this)
    refine x_iconst 113 C dX12_isWord_112 rfl ?_
    refine x_zret C T dX12_isWord_113 (by omega) ?_
    exact PE_i (by first | rw [b2_f hWj] | rw [b2_t hWj]) (by omega)
  refine x_aload_n 67 C dX12_isWord_66 rfl rfl rfl ?_
  refine x_iconst 68 C dX12_isWord_67 rfl ?_
  refine x_iload 70 C dX12_isWord_68 rfl rfl ?_
  refine x_callVe 73 C dX12_isWord_70 rfl (c_X12_isLetter (i := 4) hG ha he hae hen (by omega) rfl (by omega)) rfl (lt79 (by decide)) rfl tb_5_150 tb_5_152 tb_0_44 tb_1_20 tb_5_153 (na := 2) (by decide +kernel) rfl ⟨by decide, by decide⟩ rfl (Nat.le_of_ble_eq_true rfl) rfl (fun r70 => ?_)
  first
    | refine x_ifb_eq 112 76 C dX12_isWord_73 rfl rfl (fun h73 => ?_) (fun h73 => ?_)
    | refine x_if_eq 112 76 C dX12_isWord_73 rfl rfl (by omega) (fun h73 => ?_) (fun h73 => ?_)
  · have hWj : ¬ W = j := fun h => h73 (by have := (wd_of hj hae (by omega : wIdx (bM σ F) a (e - a) = j)).2 4 (by omega); rw [← w4] at this; exact this)
    refine x_iconst 113 C dX12_isWord_112 rfl ?_
    refine x_zret C T dX12_isWord_113 (by omega) ?_
    exact PE_i (by first | rw [b2_f hWj] | rw [b2_t hWj]) (by omega)
  refine x_aload_n 77 C dX12_isWord_76 rfl rfl rfl ?_
  refine x_iconst 78 C dX12_isWord_77 rfl ?_
  refine x_iload 80 C dX12_isWord_78 rfl rfl ?_
  refine x_callVe 83 C dX12_isWord_80 rfl (c_X12_isLetter (i := 5) hG ha he hae hen (by omega) rfl (by omega)) rfl (lt79 (by decide)) rfl tb_5_150 tb_5_152 tb_0_44 tb_1_20 tb_5_153 (na := 2) (by decide +kernel) rfl ⟨by decide, by decide⟩ rfl (Nat.le_of_ble_eq_true rfl) rfl (fun r80 => ?_)
  first
    | refine x_ifb_eq 112 86 C dX12_isWord_83 rfl rfl (fun h83 => ?_) (fun h83 => ?_)
    | refine x_if_eq 112 86 C dX12_isWord_83 rfl rfl (by omega) (fun h83 => ?_) (fun h83 => ?_)
  · have hWj : ¬ W = j := fun h => h83 (by have := (wd_of hj hae (by omega : wIdx (bM σ F) a (e - a) = j)).2 5 (by omega); rw [← w5] at this; exact this)
    refine x_iconst 113 C dX12_isWord_112 rfl ?_
    refine x_zret C T dX12_isWord_113 (by omega) ?_
    exact PE_i (by first | rw [b2_f hWj] | rw [b2_t hWj]) (by omega)
  refine x_aload_n 87 C dX12_isWord_86 rfl rfl rfl ?_
  refine x_bipush 89 C dX12_isWord_87 rfl rfl ?_
  refine x_iload 91 C dX12_isWord_89 rfl rfl ?_
  refine x_callVe 94 C dX12_isWord_91 rfl (c_X12_isLetter (i := 6) hG ha he hae hen (by omega) rfl (by omega)) rfl (lt79 (by decide)) rfl tb_5_150 tb_5_152 tb_0_44 tb_1_20 tb_5_153 (na := 2) (by decide +kernel) rfl ⟨by decide, by decide⟩ rfl (Nat.le_of_ble_eq_true rfl) rfl (fun r91 => ?_)
  first
    | refine x_ifb_eq 112 97 C dX12_isWord_94 rfl rfl (fun h94 => ?_) (fun h94 => ?_)
    | refine x_if_eq 112 97 C dX12_isWord_94 rfl rfl (by omega) (fun h94 => ?_) (fun h94 => ?_)
  · have hWj : ¬ W = j := fun h => h94 (by have := (wd_of hj hae (by omega : wIdx (bM σ F) a (e - a) = j)).2 6 (by omega); rw [← w6] at this; exact this)
    refine x_iconst 113 C dX12_isWord_112 rfl ?_
    refine x_zret C T dX12_isWord_113 (by omega) ?_
    exact PE_i (by first | rw [b2_f hWj] | rw [b2_t hWj]) (by omega)
  refine x_aload_n 98 C dX12_isWord_97 rfl rfl rfl ?_
  refine x_bipush 100 C dX12_isWord_98 rfl rfl ?_
  refine x_iload 102 C dX12_isWord_100 rfl rfl ?_
  refine x_callVe 105 C dX12_isWord_102 rfl (c_X12_isLetter (i := 7) hG ha he hae hen (by omega) rfl (by omega)) rfl (lt79 (by decide)) rfl tb_5_150 tb_5_152 tb_0_44 tb_1_20 tb_5_153 (na := 2) (by decide +kernel) rfl ⟨by decide, by decide⟩ rfl (Nat.le_of_ble_eq_true rfl) rfl (fun r102 => ?_)
  first
    | refine x_ifb_eq 112 108 C dX12_isWord_105 rfl rfl (fun h105 => ?_) (fun h105 => ?_)
    | refine x_if_eq 112 108 C dX12_isWord_105 rfl rfl (by omega) (fun h105 => ?_) (fun h105 => ?_)
  · have hWj : ¬ W = j := fun h => h105 (by have := (wd_of hj hae (by omega : wIdx (bM σ F) a (e - a) = j)).2 7 (by omega); rw [← w7] at this; exact this)
    refine x_iconst 113 C dX12_isWord_112 rfl ?_
    refine x_zret C T dX12_isWord_113 (by omega) ?_
    exact PE_i (by first | rw [b2_f hWj] | rw [b2_t hWj]) (by omega)
  have hWj : W = j := by
    have := wd_to (b := bM σ F) hj hae (by omega) hb (fun i hi => ?_)
    · omega
    · have : i = 0 ∨ i = 1 ∨ i = 2 ∨ i = 3 ∨ i = 4 ∨ i = 5 ∨ i = 6 ∨ i = 7 := by omega
      rcases this with rfl | rfl | rfl | rfl | rfl | rfl | rfl | rfl
      · rw [← w0]; exact h35
      · rw [← w1]; exact h44
      · rw [← w2]; exact h53
      · rw [← w3]; exact h63
      · rw [← w4]; exact h73
      · rw [← w5]; exact h83
      · rw [← w6]; exact h94
      · rw [← w7]; exact h105
  refine x_iconst 109 C dX12_isWord_108 rfl ?_
  refine x_goto 113 C dX12_isWord_109 rfl ?_
  refine x_zret C T dX12_isWord_113 (by omega) ?_
  exact PE_i (by first | rw [b2_f hWj] | rw [b2_t hWj]) (by omega)

theorem MSt_next {σ0 s s' : Sig} {F n p : Nat} {u : Int} (h : MSt σ0 F n p u s) (h2 : FMn s s') (h3 : LMs (bM s F) n (lxE (bM σ0 F) n p) s') : MSt σ0 F n (lxE (bM σ0 F) n p) u s' := by
  rw [FM_bM h.2.2.1] at h3
  exact ⟨h.1, lxE_le h.2.1, FM_trans h.2.2.1 (FMn_FM h2), h3, (h2.2 32 (by omega) (by omega) (by omega)).trans h.2.2.2.2.1, (h2.2 31 (by omega) (by omega) (by omega)).trans h.2.2.2.2.2⟩
theorem MSt_open {σ0 s : Sig} {F n p : Nat} {u v : Int} (h : MSt σ0 F n p u s) : MSt σ0 F n p v (up s 51 31 v) := by
  obtain ⟨h1, h2, h3, ⟨k1, k2, k3, k4, k5⟩, h5, h6⟩ := h
  refine ⟨h1, h2, FM_up h3 (by omega), ⟨?_, ?_, fun h => ?_, fun h => ?_, fun h => ?_⟩, ?_, up_s⟩
  · rw [up_i (by omega)]; exact k1
  · rw [up_i (by omega)]; exact k2
  · rw [up_i (by omega)]; exact k3 h
  · rw [up_r (by omega)]; exact k4 h
  · rw [up_r (by omega)]; exact k5 h
  · rw [up_i (by omega)]; exact h5
theorem MBad_open {σ0 s : Sig} {a : Nat} {u v : Int} (h : MBad σ0 a u s) : MBad σ0 a v (up s 51 31 v) := by
  obtain ⟨h1, h2, h3, h4⟩ := h
  exact ⟨FM_up h1 (by omega), by rw [up_i (by omega)]; exact h2, by rw [up_i (by omega)]; exact h3, up_s⟩
def FL (s s' : Sig) : Prop := (s 51 32 = 0 → s' = up (up s 51 32 1) 51 33 (s 51 29)) ∧ (s 51 32 ≠ 0 → s' = s)
theorem MSt_fail {σ0 s s' : Sig} {F n p : Nat} {u : Int} (h : MSt σ0 F n p u s) (h2 : FL s s') : MBad σ0 (lxA (bM σ0 F) n p) u s' := by
  obtain rfl := h2.1 h.2.2.2.2.1
  exact ⟨FM_up (FM_up h.2.2.1 (by omega)) (by omega), by rw [up_i (by omega), up_s], by rw [up_s]; exact h.2.2.2.1.1, by rw [up_i (by omega), up_i (by omega)]; exact h.2.2.2.2.2⟩
theorem MBad_fail {σ0 s s' : Sig} {a : Nat} {u : Int} (h : MBad σ0 a u s) (h2 : FL s s') : MBad σ0 a u s' := by
  obtain rfl := h2.2 (by have := h.2.1; omega)
  exact h
theorem MSt_here {σ0 s : Sig} {F n p : Nat} {u : Int} (h : MSt σ0 F n p u s) (hk : kM (bM σ0 F) n p ≠ 4) : s 51 27 = lxE (bM σ0 F) n p := h.2.2.2.1.2.2.1 hk
theorem MSt_HG {σ0 s : Sig} {F n p : Nat} {u : Int} (h : MSt σ0 F n p u s) : HG F n s := HG_FM h.1 h.2.2.1
theorem MSt_le {σ0 s : Sig} {F n p : Nat} {u : Int} (h : MSt σ0 F n p u s) : p ≤ n := h.2.1
theorem MSt_ele {σ0 s : Sig} {F n p : Nat} {u : Int} (h : MSt σ0 F n p u s) : lxE (bM σ0 F) n p ≤ n := lxE_le h.2.1
theorem MSt_bad {σ0 s : Sig} {F n p : Nat} {u : Int} (h : MSt σ0 F n p u s) : s 51 32 = 0 := h.2.2.2.2.1
theorem MSt_u {σ0 s : Sig} {F n p : Nat} {u : Int} (h : MSt σ0 F n p u s) : s 51 31 = u := h.2.2.2.2.2
theorem kM_ne4 {b : Nat → Int} {n p : Nat} (h : lxT b n p ≠ 1) : kM b n p ≠ 4 := by
  rcases kM_cases b n p with c | c | c | c | c <;> omega
set_option maxHeartbeats 4000000 in
set_option maxRecDepth 100000 in
theorem c_X12_opens {l : Launch} {G : Gt} {ρ : Nat → Nat} {tc : Nat} {cl : Nat → Nat} {σ : Sig} {σ0 : Sig} {F n p : Nat} {u : Int} (hS : MSt σ0 F n p u σ) (hu : 0 ≤ u ∧ u ≤ 5) (ht : lxT (bM σ0 F) n p ≠ 1) : MX l yX12_opens cX12_opens 1 (some .boolean) 2 47 G (NN tc) ρ (shp tc cl) [.ref (ρ 51)] σ (PI (fun z σ' => (u = 5 → z = 0 ∧ MBad σ0 (lxA (bM σ0 F) n p) u σ') ∧ (u ≠ 5 → z = 1 ∧ MSt σ0 F n (lxE (bM σ0 F) n p) (u + 1) σ'))) := by
  refine MX_of [some (.ref (ρ 51))] (by decide +kernel) rfl rfl (Nat.le_of_ble_eq_true rfl) ?_
  intro K hKl C T hRng
  subst hKl
  have hop := MSt_u hS
  refine x_aload_n 1 C dX12_opens_0 rfl rfl rfl ?_
  refine x_geti (j := 31) 4 C rfl (lt79 (by decide)) rfl rfl (by decide) inT12 tb_4_165 rfl dX12_opens_1 rfl (fun r1 => ?_)
  refine x_iconst 5 C dX12_opens_4 rfl ?_
  refine x_icmp_ne 14 8 C dX12_opens_5 rfl rfl (by omega) (by omega) (fun h5 => ?_) (fun h5 => ?_)
  · refine x_aload_n 15 C dX12_opens_14 rfl rfl rfl ?_
    refine x_dup 16 C dX12_opens_15 rfl rfl ?_
    refine x_geti (j := 31) 19 C rfl (lt79 (by decide)) rfl rfl (by decide) inT12 tb_4_165 rfl dX12_opens_16 rfl (fun r16 => ?_)
    refine x_iconst 20 C dX12_opens_19 rfl ?_
    refine x_iadd 21 C dX12_opens_20 rfl ?_
    refine x_puti (j := 31) tyX12 24 C rfl (lt79 (by decide)) rfl rfl (by decide) inT12 tyX12_ok nmX12 tb_4_165 rfl rfl rfl dX12_opens_21 rfl (by omega) ?_
    have hS2 : MSt σ0 F n p (u + 1) (up σ 51 31 (σ 51 31 + 1)) := by rw [hop]; exact MSt_open hS
    refine x_aload_n 25 C dX12_opens_24 rfl rfl rfl ?_
    refine x_callVv 28 C dX12_opens_25 rfl (c_X12_nextToken (q := lxE (bM σ0 F) n p) (MSt_HG hS2) (MSt_here hS2 (kM_ne4 (by omega))) (MSt_ele hS2)) rfl (lt79 (by decide)) rfl tb_5_133 tb_5_135 tb_0_41 tb_1_20 tb_5_136 (na := 0) (by decide +kernel) rfl ⟨by decide, by decide⟩ rfl (Nat.le_of_ble_eq_true rfl) rfl (fun s25 hq25 hR25 => ?_)
    refine x_iconst 29 C dX12_opens_28 rfl ?_
    refine x_zret C T dX12_opens_29 (by omega) ?_
    refine PI_i (by omega) ⟨fun h => ?_, fun h => ?_⟩
    all_goals first | (exfalso; omega) | exact ⟨rfl, MSt_fail hS hq9⟩ | exact ⟨rfl, MSt_next hS2 hq25.1 hq25.2⟩
  refine x_aload_n 9 C dX12_opens_8 rfl rfl rfl ?_
  refine x_callVv 12 C dX12_opens_9 rfl (c_X12_fail) rfl (lt79 (by decide)) rfl tb_5_158 tb_5_160 tb_0_46 tb_1_20 tb_5_161 (na := 0) (by decide +kernel) rfl ⟨by decide, by decide⟩ rfl (Nat.le_of_ble_eq_true rfl) rfl (fun s9 hq9 hR9 => ?_)
  refine x_iconst 13 C dX12_opens_12 rfl ?_
  refine x_zret C T dX12_opens_13 (by omega) ?_
  refine PI_i (by omega) ⟨fun h => ?_, fun h => ?_⟩
  all_goals first | (exfalso; omega) | exact ⟨rfl, MSt_fail hS hq9⟩ | exact ⟨rfl, MSt_next hS2 hq25.1 hq25.2⟩

/-- the names, as told -/
def nmF (far m f h s t : Int) : Nat → Int := fun j => if j = 0 then far else if j = 1 then m else if j = 2 then f else if j = 3 then h else if j = 4 then s else if j = 5 then t else 0
def nmM (s : Sig) : Nat → Int := nmF (s 51 19) (s 51 20) (s 51 21) (s 51 22) (s 51 23) (s 51 24)
theorem nmF_in {far m f h s t : Int} (h0 : -2147483648 ≤ far ∧ far ≤ 2147483647) (h1 : -2147483648 ≤ m ∧ m ≤ 2147483647) (h2 : -2147483648 ≤ f ∧ f ≤ 2147483647) (h3 : -2147483648 ≤ h ∧ h ≤ 2147483647) (h4 : -2147483648 ≤ s ∧ s ≤ 2147483647) (h5 : -2147483648 ≤ t ∧ t ≤ 2147483647) : ∀ j, -2147483648 ≤ nmF far m f h s t j ∧ nmF far m f h s t j ≤ 2147483647 := by
  intro j
  unfold nmF
  (repeat' split) <;> omega
theorem nmM_in {s : Sig} (h : Rng s) : ∀ j, -2147483648 ≤ nmM s j ∧ nmM s j ≤ 2147483647 := nmF_in (h _ _ (by omega)) (h _ _ (by omega)) (h _ _ (by omega)) (h _ _ (by omega)) (h _ _ (by omega)) (h _ _ (by omega))
theorem nmM_FM {s s' : Sig} (h : FM s s') : nmM s' = nmM s := by
  unfold nmM
  rw [h.2 19 (by omega), h.2 20 (by omega), h.2 21 (by omega), h.2 22 (by omega), h.2 23 (by omega), h.2 24 (by omega)]
set_option maxHeartbeats 4000000 in
set_option maxRecDepth 100000 in
theorem c_X12_name {l : Launch} {G : Gt} {ρ : Nat → Nat} {tc : Nat} {cl : Nat → Nat} {σ : Sig} {σ0 : Sig} {F n p : Nat} {u : Int} (hS : MSt σ0 F n p u σ) (hk : σ 51 28 = 1) : MX l yX12_name cX12_name 1 (some .int) 3 71 G (NN tc) ρ (shp tc cl) [.ref (ρ 51)] σ (PI (fun z σ' => (lxT (bM σ0 F) n p = 3 → z = nmM σ0 (lxV (bM σ0 F) n p).toNat ∧ σ' = σ) ∧ (lxT (bM σ0 F) n p ≠ 3 → MBad σ0 (lxA (bM σ0 F) n p) u σ'))) := by
  refine MX_of [some (.ref (ρ 51))] (by decide +kernel) rfl rfl (Nat.le_of_ble_eq_true rfl) ?_
  intro K hKl C T hRng
  subst hKl
  have hT := CT_good hS
  have hkk : kM (bM σ0 F) n p = 1 := by rw [← hS.2.2.2.1.2.1]; exact hk
  have hc : (wj (bM σ0 F) n p < 6 ∧ lxT (bM σ0 F) n p = 3 ∧ lxV (bM σ0 F) n p = wj (bM σ0 F) n p) ∨ (6 ≤ wj (bM σ0 F) n p ∧ lxT (bM σ0 F) n p ≠ 3) := by
    rcases kM_cases (bM σ0 F) n p with c | c | c | c | c
    · omega
    · rcases c.2.2.2.2.2.2 with d | d | d
      · exact Or.inl ⟨d.1, d.2, c.2.2.2.2.2.1⟩
      · exact Or.inr ⟨d.1, by omega⟩
      · exact Or.inr ⟨by omega, by omega⟩
    · omega
    · omega
    · omega
  have hnm := nmM_FM hS.2.2.1
  refine x_aload_n 1 C dX12_name_0 rfl rfl rfl ?_
  refine x_bipush 3 C dX12_name_1 rfl rfl ?_
  refine x_bipush 5 C dX12_name_3 rfl rfl ?_
  refine x_bipush 7 C dX12_name_5 rfl rfl ?_
  refine x_iconst 8 C dX12_name_7 rfl ?_
  refine x_iconst 9 C dX12_name_8 rfl ?_
  refine x_iconst 10 C dX12_name_9 rfl ?_
  refine x_iconst 11 C dX12_name_10 rfl ?_
  refine x_iconst 12 C dX12_name_11 rfl ?_
  refine x_callVe 15 C dX12_name_12 rfl (c_X12_isWord (j := 0) hT (by omega) (by decide) (by decide)) rfl (lt79 (by decide)) rfl tb_5_146 tb_5_148 tb_0_43 tb_1_20 tb_5_149 (na := 8) (by decide +kernel) rfl ⟨by decide, by decide⟩ rfl (Nat.le_of_ble_eq_true rfl) rfl (fun r12 => ?_)
  first
    | refine x_ifb_eq 23 18 C dX12_name_15 rfl rfl (fun h15 => ?_) (fun h15 => ?_)
    | refine x_if_eq 23 18 C dX12_name_15 rfl rfl (by omega) (fun h15 => ?_) (fun h15 => ?_)
  rotate_left
  · refine x_aload_n 19 C dX12_name_18 rfl rfl rfl ?_
    refine x_geti (j := 19) 22 C rfl (lt79 (by decide)) rfl rfl (by decide) inT12 tb_4_153 rfl dX12_name_19 rfl (fun r19 => ?_)
    refine x_iret C T dX12_name_22 ?_
    refine PI_i (by omega) ⟨fun h => ?_, fun h => ?_⟩
    all_goals first
      | (exfalso; omega)
      | exact MSt_fail hS hq145
      | (refine ⟨?_, rfl⟩
         rcases hc with c | c
         · rw [c.2.2, ← hnm, Int.toNat_natCast]
           first | (rw [show wj (bM σ0 F) n p = 0 by omega]; rfl) | (rw [show wj (bM σ0 F) n p = 1 by omega]; rfl) | (rw [show wj (bM σ0 F) n p = 2 by omega]; rfl) | (rw [show wj (bM σ0 F) n p = 3 by omega]; rfl) | (rw [show wj (bM σ0 F) n p = 4 by omega]; rfl) | (rw [show wj (bM σ0 F) n p = 5 by omega]; rfl)
         · omega)
  refine x_aload_n 24 C dX12_name_23 rfl rfl rfl ?_
  refine x_bipush 26 C dX12_name_24 rfl rfl ?_
  refine x_bipush 28 C dX12_name_26 rfl rfl ?_
  refine x_bipush 30 C dX12_name_28 rfl rfl ?_
  refine x_bipush 32 C dX12_name_30 rfl rfl ?_
  refine x_bipush 34 C dX12_name_32 rfl rfl ?_
  refine x_bipush 36 C dX12_name_34 rfl rfl ?_
  refine x_iconst 37 C dX12_name_36 rfl ?_
  refine x_iconst 38 C dX12_name_37 rfl ?_
  refine x_callVe 41 C dX12_name_38 rfl (c_X12_isWord (j := 1) hT (by omega) (by decide) (by decide)) rfl (lt79 (by decide)) rfl tb_5_146 tb_5_148 tb_0_43 tb_1_20 tb_5_149 (na := 8) (by decide +kernel) rfl ⟨by decide, by decide⟩ rfl (Nat.le_of_ble_eq_true rfl) rfl (fun r38 => ?_)
  first
    | refine x_ifb_eq 49 44 C dX12_name_41 rfl rfl (fun h41 => ?_) (fun h41 => ?_)
    | refine x_if_eq 49 44 C dX12_name_41 rfl rfl (by omega) (fun h41 => ?_) (fun h41 => ?_)
  rotate_left
  · refine x_aload_n 45 C dX12_name_44 rfl rfl rfl ?_
    refine x_geti (j := 20) 48 C rfl (lt79 (by decide)) rfl rfl (by decide) inT12 tb_4_154 rfl dX12_name_45 rfl (fun r45 => ?_)
    refine x_iret C T dX12_name_48 ?_
    refine PI_i (by omega) ⟨fun h => ?_, fun h => ?_⟩
    all_goals first
      | (exfalso; omega)
      | exact MSt_fail hS hq145
      | (refine ⟨?_, rfl⟩
         rcases hc with c | c
         · rw [c.2.2, ← hnm, Int.toNat_natCast]
           first | (rw [show wj (bM σ0 F) n p = 0 by omega]; rfl) | (rw [show wj (bM σ0 F) n p = 1 by omega]; rfl) | (rw [show wj (bM σ0 F) n p = 2 by omega]; rfl) | (rw [show wj (bM σ0 F) n p = 3 by omega]; rfl) | (rw [show wj (bM σ0 F) n p = 4 by omega]; rfl) | (rw [show wj (bM σ0 F) n p = 5 by omega]; rfl)
         · omega)
  refine x_aload_n 50 C dX12_name_49 rfl rfl rfl ?_
  refine x_bipush 52 C dX12_name_50 rfl rfl ?_
  refine x_bipush 54 C dX12_name_52 rfl rfl ?_
  refine x_bipush 56 C dX12_name_54 rfl rfl ?_
  refine x_iconst 57 C dX12_name_56 rfl ?_
  refine x_iconst 58 C dX12_name_57 rfl ?_
  refine x_iconst 59 C dX12_name_58 rfl ?_
  refine x_iconst 60 C dX12_name_59 rfl ?_
  refine x_iconst 61 C dX12_name_60 rfl ?_
  refine x_callVe 64 C dX12_name_61 rfl (c_X12_isWord (j := 2) hT (by omega) (by decide) (by decide)) rfl (lt79 (by decide)) rfl tb_5_146 tb_5_148 tb_0_43 tb_1_20 tb_5_149 (na := 8) (by decide +kernel) rfl ⟨by decide, by decide⟩ rfl (Nat.le_of_ble_eq_true rfl) rfl (fun r61 => ?_)
  first
    | refine x_ifb_eq 72 67 C dX12_name_64 rfl rfl (fun h64 => ?_) (fun h64 => ?_)
    | refine x_if_eq 72 67 C dX12_name_64 rfl rfl (by omega) (fun h64 => ?_) (fun h64 => ?_)
  rotate_left
  · refine x_aload_n 68 C dX12_name_67 rfl rfl rfl ?_
    refine x_geti (j := 21) 71 C rfl (lt79 (by decide)) rfl rfl (by decide) inT12 tb_4_155 rfl dX12_name_68 rfl (fun r68 => ?_)
    refine x_iret C T dX12_name_71 ?_
    refine PI_i (by omega) ⟨fun h => ?_, fun h => ?_⟩
    all_goals first
      | (exfalso; omega)
      | exact MSt_fail hS hq145
      | (refine ⟨?_, rfl⟩
         rcases hc with c | c
         · rw [c.2.2, ← hnm, Int.toNat_natCast]
           first | (rw [show wj (bM σ0 F) n p = 0 by omega]; rfl) | (rw [show wj (bM σ0 F) n p = 1 by omega]; rfl) | (rw [show wj (bM σ0 F) n p = 2 by omega]; rfl) | (rw [show wj (bM σ0 F) n p = 3 by omega]; rfl) | (rw [show wj (bM σ0 F) n p = 4 by omega]; rfl) | (rw [show wj (bM σ0 F) n p = 5 by omega]; rfl)
         · omega)
  refine x_aload_n 73 C dX12_name_72 rfl rfl rfl ?_
  refine x_bipush 75 C dX12_name_73 rfl rfl ?_
  refine x_bipush 77 C dX12_name_75 rfl rfl ?_
  refine x_bipush 79 C dX12_name_77 rfl rfl ?_
  refine x_bipush 81 C dX12_name_79 rfl rfl ?_
  refine x_iconst 82 C dX12_name_81 rfl ?_
  refine x_iconst 83 C dX12_name_82 rfl ?_
  refine x_iconst 84 C dX12_name_83 rfl ?_
  refine x_iconst 85 C dX12_name_84 rfl ?_
  refine x_callVe 88 C dX12_name_85 rfl (c_X12_isWord (j := 3) hT (by omega) (by decide) (by decide)) rfl (lt79 (by decide)) rfl tb_5_146 tb_5_148 tb_0_43 tb_1_20 tb_5_149 (na := 8) (by decide +kernel) rfl ⟨by decide, by decide⟩ rfl (Nat.le_of_ble_eq_true rfl) rfl (fun r85 => ?_)
  first
    | refine x_ifb_eq 96 91 C dX12_name_88 rfl rfl (fun h88 => ?_) (fun h88 => ?_)
    | refine x_if_eq 96 91 C dX12_name_88 rfl rfl (by omega) (fun h88 => ?_) (fun h88 => ?_)
  rotate_left
  · refine x_aload_n 92 C dX12_name_91 rfl rfl rfl ?_
    refine x_geti (j := 22) 95 C rfl (lt79 (by decide)) rfl rfl (by decide) inT12 tb_4_156 rfl dX12_name_92 rfl (fun r92 => ?_)
    refine x_iret C T dX12_name_95 ?_
    refine PI_i (by omega) ⟨fun h => ?_, fun h => ?_⟩
    all_goals first
      | (exfalso; omega)
      | exact MSt_fail hS hq145
      | (refine ⟨?_, rfl⟩
         rcases hc with c | c
         · rw [c.2.2, ← hnm, Int.toNat_natCast]
           first | (rw [show wj (bM σ0 F) n p = 0 by omega]; rfl) | (rw [show wj (bM σ0 F) n p = 1 by omega]; rfl) | (rw [show wj (bM σ0 F) n p = 2 by omega]; rfl) | (rw [show wj (bM σ0 F) n p = 3 by omega]; rfl) | (rw [show wj (bM σ0 F) n p = 4 by omega]; rfl) | (rw [show wj (bM σ0 F) n p = 5 by omega]; rfl)
         · omega)
  refine x_aload_n 97 C dX12_name_96 rfl rfl rfl ?_
  refine x_bipush 99 C dX12_name_97 rfl rfl ?_
  refine x_bipush 101 C dX12_name_99 rfl rfl ?_
  refine x_bipush 103 C dX12_name_101 rfl rfl ?_
  refine x_iconst 104 C dX12_name_103 rfl ?_
  refine x_iconst 105 C dX12_name_104 rfl ?_
  refine x_iconst 106 C dX12_name_105 rfl ?_
  refine x_iconst 107 C dX12_name_106 rfl ?_
  refine x_iconst 108 C dX12_name_107 rfl ?_
  refine x_callVe 111 C dX12_name_108 rfl (c_X12_isWord (j := 4) hT (by omega) (by decide) (by decide)) rfl (lt79 (by decide)) rfl tb_5_146 tb_5_148 tb_0_43 tb_1_20 tb_5_149 (na := 8) (by decide +kernel) rfl ⟨by decide, by decide⟩ rfl (Nat.le_of_ble_eq_true rfl) rfl (fun r108 => ?_)
  first
    | refine x_ifb_eq 119 114 C dX12_name_111 rfl rfl (fun h111 => ?_) (fun h111 => ?_)
    | refine x_if_eq 119 114 C dX12_name_111 rfl rfl (by omega) (fun h111 => ?_) (fun h111 => ?_)
  rotate_left
  · refine x_aload_n 115 C dX12_name_114 rfl rfl rfl ?_
    refine x_geti (j := 23) 118 C rfl (lt79 (by decide)) rfl rfl (by decide) inT12 tb_4_157 rfl dX12_name_115 rfl (fun r115 => ?_)
    refine x_iret C T dX12_name_118 ?_
    refine PI_i (by omega) ⟨fun h => ?_, fun h => ?_⟩
    all_goals first
      | (exfalso; omega)
      | exact MSt_fail hS hq145
      | (refine ⟨?_, rfl⟩
         rcases hc with c | c
         · rw [c.2.2, ← hnm, Int.toNat_natCast]
           first | (rw [show wj (bM σ0 F) n p = 0 by omega]; rfl) | (rw [show wj (bM σ0 F) n p = 1 by omega]; rfl) | (rw [show wj (bM σ0 F) n p = 2 by omega]; rfl) | (rw [show wj (bM σ0 F) n p = 3 by omega]; rfl) | (rw [show wj (bM σ0 F) n p = 4 by omega]; rfl) | (rw [show wj (bM σ0 F) n p = 5 by omega]; rfl)
         · omega)
  refine x_aload_n 120 C dX12_name_119 rfl rfl rfl ?_
  refine x_bipush 122 C dX12_name_120 rfl rfl ?_
  refine x_bipush 124 C dX12_name_122 rfl rfl ?_
  refine x_bipush 126 C dX12_name_124 rfl rfl ?_
  refine x_bipush 128 C dX12_name_126 rfl rfl ?_
  refine x_bipush 130 C dX12_name_128 rfl rfl ?_
  refine x_iconst 131 C dX12_name_130 rfl ?_
  refine x_iconst 132 C dX12_name_131 rfl ?_
  refine x_iconst 133 C dX12_name_132 rfl ?_
  refine x_callVe 136 C dX12_name_133 rfl (c_X12_isWord (j := 5) hT (by omega) (by decide) (by decide)) rfl (lt79 (by decide)) rfl tb_5_146 tb_5_148 tb_0_43 tb_1_20 tb_5_149 (na := 8) (by decide +kernel) rfl ⟨by decide, by decide⟩ rfl (Nat.le_of_ble_eq_true rfl) rfl (fun r133 => ?_)
  first
    | refine x_ifb_eq 144 139 C dX12_name_136 rfl rfl (fun h136 => ?_) (fun h136 => ?_)
    | refine x_if_eq 144 139 C dX12_name_136 rfl rfl (by omega) (fun h136 => ?_) (fun h136 => ?_)
  · refine x_aload_n 145 C dX12_name_144 rfl rfl rfl ?_
    refine x_callVv 148 C dX12_name_145 rfl (c_X12_fail) rfl (lt79 (by decide)) rfl tb_5_158 tb_5_160 tb_0_46 tb_1_20 tb_5_161 (na := 0) (by decide +kernel) rfl ⟨by decide, by decide⟩ rfl (Nat.le_of_ble_eq_true rfl) rfl (fun s145 hq145 hR145 => ?_)
    refine x_iconst 149 C dX12_name_148 rfl ?_
    refine x_iret C T dX12_name_149 ?_
    refine PI_i (by omega) ⟨fun h => ?_, fun h => ?_⟩
    all_goals first
      | (exfalso; omega)
      | exact MSt_fail hS hq145
      | (refine ⟨?_, rfl⟩
         rcases hc with c | c
         · rw [c.2.2, ← hnm, Int.toNat_natCast]
           first | (rw [show wj (bM σ0 F) n p = 0 by omega]; rfl) | (rw [show wj (bM σ0 F) n p = 1 by omega]; rfl) | (rw [show wj (bM σ0 F) n p = 2 by omega]; rfl) | (rw [show wj (bM σ0 F) n p = 3 by omega]; rfl) | (rw [show wj (bM σ0 F) n p = 4 by omega]; rfl) | (rw [show wj (bM σ0 F) n p = 5 by omega]; rfl)
         · omega)
  refine x_aload_n 140 C dX12_name_139 rfl rfl rfl ?_
  refine x_geti (j := 24) 143 C rfl (lt79 (by decide)) rfl rfl (by decide) inT12 tb_4_158 rfl dX12_name_140 rfl (fun r140 => ?_)
  refine x_iret C T dX12_name_143 ?_
  refine PI_i (by omega) ⟨fun h => ?_, fun h => ?_⟩
  all_goals first
    | (exfalso; omega)
    | exact MSt_fail hS hq145
    | (refine ⟨?_, rfl⟩
       rcases hc with c | c
       · rw [c.2.2, ← hnm, Int.toNat_natCast]
         first | (rw [show wj (bM σ0 F) n p = 0 by omega]; rfl) | (rw [show wj (bM σ0 F) n p = 1 by omega]; rfl) | (rw [show wj (bM σ0 F) n p = 2 by omega]; rfl) | (rw [show wj (bM σ0 F) n p = 3 by omega]; rfl) | (rw [show wj (bM σ0 F) n p = 4 by omega]; rfl) | (rw [show wj (bM σ0 F) n p = 5 by omega]; rfl)
       · omega)
