/-! both halves, side by side -/
def TPR (σ : Sig) : Prop := ∃ n : Nat, σ 28 1 = (n : Int) ∧ σ 51 6 = (n : Int) ∧ n ≤ 160 ∧ ∀ i, i < n → σ 29 i = σ 54 i ∧ 0 ≤ σ 54 i ∧ σ 54 i ≤ 255
def ShR (σ : Sig) (i : Nat) : Prop := (σ (43 + i) 1 = -1 ∧ σ 75 i = 0) ∨ (σ (43 + i) 1 ≠ -1 ∧ σ 75 i = 1 ∧ σ (43 + i) 1 = σ 76 i ∧ σ (43 + i) 2 = σ 77 i ∧ ∀ q : Nat, (q : Int) < σ 77 i → σ (47 + i) q = σ 78 (40 * i + q))
def IMr (tc : Nat) (σ : Sig) : Prop := (σ 51 48 = σ 11 8 ∧ σ 51 49 = σ 11 3 ∧ σ 51 50 = σ 11 1 ∧ σ 51 51 = σ 11 2) ∧ (0 ≤ σ 11 8 ∧ σ 11 8 ≤ σ 1 8 ∧ 0 ≤ σ 11 3 ∧ σ 11 3 ≤ σ 1 3 ∧ 0 ≤ σ 11 1 ∧ σ 11 1 ≤ 9 ∧ 0 ≤ σ 11 2 ∧ σ 11 2 < tc) ∧ (∀ b, b < 36 → σ 72 b = σ 12 b ∧ 0 ≤ σ 12 b ∧ σ 12 b ≤ 9) ∧ (∀ b, b < 6 → (σ 73 b = σ 13 b ∧ 0 ≤ σ 13 b ∧ σ 13 b ≤ 35) ∧ (σ 73 (6 + b) = σ 14 b ∧ 0 ≤ σ 14 b ∧ σ 14 b ≤ 99) ∧ (σ 73 (12 + b) = σ 15 b ∧ 0 ≤ σ 15 b ∧ σ 15 b ≤ 9) ∧ (0 ≤ σ 16 b ∧ σ 16 b ≤ 5)) ∧ (∀ b, b < 5 → (σ 74 b = σ 17 b ∧ 0 ≤ σ 17 b ∧ σ 17 b ≤ 35) ∧ (σ 74 (5 + b) = σ 18 b ∧ 0 ≤ σ 18 b ∧ σ 18 b ≤ 3) ∧ (σ 74 (10 + b) = σ 19 b ∧ 0 ≤ σ 19 b ∧ σ 19 b ≤ 23) ∧ (0 ≤ σ 20 b ∧ σ 20 b ≤ 99)) ∧ (∀ b : Nat, (b : Int) < σ 11 3 → σ 16 b = σ 6 b) ∧ ∀ b : Nat, (b : Int) < σ 11 8 → σ 20 b = σ 10 b
def IMR (tc : Nat) (σ : Sig) : Prop := (σ 0 2 = 0 ∧ σ 51 48 = -1) ∨ (σ 0 2 ≠ 0 ∧ IMr tc σ)
/-- the class's half and the model's tell the same -/
def RR (X : Nat → RuT) (tc : Nat) (cl : Nat → Nat) (σ : Sig) : Prop := CW X tc cl σ ∧ MW X tc σ ∧ cT σ = cM σ ∧ (σ 0 6 = (tc : Int) ∧ σ 51 3 = (tc : Int) ∧ 1 ≤ tc) ∧ TPR σ ∧ (SI σ ∧ MS σ ∧ ∀ i, i < 4 → ShR σ i) ∧ IMR tc σ
/-- what matters to it, but for what is kept of texts -/
def Im (a b : Nat) : Prop := (a = 0 ∧ b < 9) ∨ (1 ≤ a ∧ a ≤ 31) ∨ (42 ≤ a ∧ a ≤ 50) ∨ (a = 51 ∧ (b < 19 ∨ 43 < b)) ∨ (52 ≤ a ∧ a ≤ 63) ∨ (72 ≤ a ∧ a ≤ 80) ∨ (82 ≤ a ∧ a ≤ 96 ∧ a % 3 ≠ 0)
section RRS
variable {X : Nat → RuT} {tc : Nat} {cl : Nat → Nat} {σ σ' σ1 σ2 : Sig}
theorem HC_keep (h : HC σ X tc cl) (r : ∀ a, 79 ≤ a → a ≤ 96 → a % 3 ≠ 0 → σ' a = σ a) : HC σ' X tc cl := by
  obtain ⟨h1, h2⟩ := h
  refine ⟨h1, fun t ht => ?_⟩
  rw [r (79 + 3 * t) (by omega) (by omega) (by omega), r (79 + 3 * t + 1) (by omega) (by omega) (by omega)]
  exact h2 t ht
theorem IMR_keep (h : IMR tc σ) (h0 : σ' 0 2 = σ 0 2) (h51 : ∀ b, 48 ≤ b → b ≤ 51 → σ' 51 b = σ 51 b) (r : ∀ a, (11 ≤ a ∧ a ≤ 20) ∨ (72 ≤ a ∧ a ≤ 74) → σ' a = σ a) (h3 : σ 1 3 ≤ σ' 1 3) (h8 : σ 1 8 ≤ σ' 1 8) (h6 : ∀ b : Nat, (b : Int) < σ 1 3 → σ' 6 b = σ 6 b) (h10 : ∀ b : Nat, (b : Int) < σ 1 8 → σ' 10 b = σ 10 b) : IMR tc σ' := by
  unfold IMR at h ⊢
  rw [h0, h51 48 (by omega) (by omega)]
  rcases h with h | ⟨h, hi⟩
  · exact Or.inl h
  · refine Or.inr ⟨h, ?_⟩
    unfold IMr at hi ⊢
    rw [h51 48 (by omega) (by omega), h51 49 (by omega) (by omega), h51 50 (by omega) (by omega), h51 51 (by omega) (by omega), r 11 (by omega), r 12 (by omega), r 13 (by omega), r 14 (by omega), r 15 (by omega), r 16 (by omega), r 17 (by omega), r 18 (by omega), r 19 (by omega), r 20 (by omega), r 72 (by omega), r 73 (by omega), r 74 (by omega)]
    obtain ⟨a1, a2, a3, a4, a5, a6, a7⟩ := hi
    exact ⟨a1, by omega, a3, a4, a5, fun b hb => by rw [h6 b (by omega)]; exact a6 b hb, fun b hb => by rw [h10 b (by omega)]; exact a7 b hb⟩
theorem ShR_keep {i : Nat} (h : ShR σ i) (h1 : σ' (43 + i) = σ (43 + i)) (h2 : σ' (47 + i) = σ (47 + i)) (h5 : σ' 75 = σ 75) (h6 : σ' 76 = σ 76) (h7 : σ' 77 = σ 77) (h8 : σ' 78 = σ 78) : ShR σ' i := by
  unfold ShR at h ⊢
  rw [h1, h2, h5, h6, h7, h8]
  exact h
theorem SHS_keep (h : SI σ ∧ MS σ ∧ ∀ i, i < 4 → ShR σ i) (r : ∀ a, (43 ≤ a ∧ a ≤ 50) ∨ (75 ≤ a ∧ a ≤ 78) → σ' a = σ a) : SI σ' ∧ MS σ' ∧ ∀ i, i < 4 → ShR σ' i := by
  obtain ⟨h1, h2, h3⟩ := h
  refine ⟨fun i hi => ?_, ?_, fun i hi => ShR_keep (h3 i hi) (r _ (by omega)) (r _ (by omega)) (r _ (by omega)) (r _ (by omega)) (r _ (by omega)) (r _ (by omega))⟩
  · rw [r (43 + i) (by omega)]; exact h1 i hi
  · unfold MS at h2 ⊢
    rw [r 75 (by omega), r 76 (by omega), r 77 (by omega)]
    exact h2
theorem TPR_keep (h : TPR σ) (h1 : σ' 28 1 = σ 28 1) (h2 : σ' 51 6 = σ 51 6) (h3 : σ' 29 = σ 29) (h4 : σ' 54 = σ 54) : TPR σ' := by
  unfold TPR at h ⊢
  rw [h1, h2, h3, h4]
  exact h
/-- a change of the town, in both halves -/
theorem RR_town0 (hR : RR X tc cl σ) (k1 : ∀ a b, ¬ (1 ≤ a ∧ a ≤ 10) → Im a b → ¬ (55 ≤ a ∧ a ≤ 63) → ¬ (a = 51 ∧ (b = 4 ∨ b = 8 ∨ b = 13 ∨ b = 18)) → σ' a b = σ a b) (hV : KV X tc σ') (hT : cT σ' = cM σ') (t1 : TI σ') (t2 : MI σ') (r1 : σ' 1 2 < tc) (r2 : σ' 51 4 < tc) (hI : IMR tc σ') : RR X tc cl σ' := by
  have r : ∀ a, (11 ≤ a ∧ a ≤ 31) ∨ (42 ≤ a ∧ a ≤ 50) ∨ (52 ≤ a ∧ a ≤ 54) ∨ (72 ≤ a ∧ a ≤ 80) ∨ (82 ≤ a ∧ a ≤ 96 ∧ a % 3 ≠ 0) → σ' a = σ a := fun a ha => funext fun b => k1 a b (by omega) (by unfold Im; omega) (by omega) (by omega)
  have r51 : ∀ b, (b < 19 ∨ 43 < b) → b ≠ 4 → b ≠ 8 → b ≠ 13 → b ≠ 18 → σ' 51 b = σ 51 b := fun b h1 h2 h3 h4 h5 => k1 51 b (by omega) (by unfold Im; omega) (by omega) (by omega)
  obtain ⟨hC, hM, _, hc, hP, hS, _⟩ := hR
  refine ⟨⟨t1, HC_keep hC.2.1 (fun a h1 h2 h3 => r a (by omega)), r1⟩, ⟨t2, HM_keep hM.2.1 (r 52 (by omega)) (r 53 (by omega)), r2, hV⟩, hT, ⟨?_, ?_, hc.2.2⟩, TPR_keep hP (by rw [r 28 (by omega)]) (r51 6 (by omega) (by omega) (by omega) (by omega) (by omega)) (r 29 (by omega)) (r 54 (by omega)), SHS_keep hS (fun a ha => r a (by omega)), hI⟩
  · rw [k1 0 6 (by omega) (by unfold Im; omega) (by omega) (by omega)]; exact hc.1
  · rw [r51 3 (by omega) (by omega) (by omega) (by omega) (by omega)]; exact hc.2.1
theorem RR_frame (h : ∀ a b, Im a b → σ' a b = σ a b) (hV : KV X tc σ') (hR : RR X tc cl σ) : RR X tc cl σ' := by
  have r : ∀ a, (1 ≤ a ∧ a ≤ 31) ∨ (52 ≤ a ∧ a ≤ 63) ∨ (72 ≤ a ∧ a ≤ 80) → σ' a = σ a := fun a ha => funext fun b => h a b (by unfold Im; omega)
  have r51 : ∀ b, (b < 19 ∨ 43 < b) → σ' 51 b = σ 51 b := fun b hb => h 51 b (by unfold Im; omega)
  have eT : cT σ' = cT σ := cT_keep1 (fun a h1 h2 => r a (by omega))
  have eM : cM σ' = cM σ := by
    unfold cM
    rw [mT_keep (fun a h1 h2 => r a (by omega)) (fun b hb => r51 b (by omega))]
  refine RR_town0 hR (fun a b _ hI _ _ => h a b hI) hV (by rw [eT, eM]; exact hR.2.2.1) (TI_keep1 (fun a h1 h2 => r a (by omega)) hR.1.1) (MI_keep (fun a h1 h2 => r a (by omega)) (fun b hb => r51 b (by omega)) hR.2.1.1) (by rw [r 1 (by omega)]; exact hR.1.2.2) (by rw [r51 4 (by omega)]; exact hR.2.1.2.2.1) ?_
  exact IMR_keep hR.2.2.2.2.2.2 (h 0 2 (by unfold Im; omega)) (fun b h1 h2 => r51 b (by omega)) (fun a ha => r a (by omega)) (by rw [r 1 (by omega)]; exact Int.le_refl _) (by rw [r 1 (by omega)]; exact Int.le_refl _) (fun b _ => by rw [r 6 (by omega)]) (fun b _ => by rw [r 10 (by omega)])
theorem RR_Kp (hR : RR X tc cl σ) (h : Kp 33 41 σ σ') : RR X tc cl σ' :=
  RR_frame (fun a b hI => congrFun (h a (by unfold Im at hI; omega) (by unfold Im at hI; omega)) b) (KV_keep hR.2.1.2.2.2 (h 1064 (by omega) (by omega)) (h 65 (by omega) (by omega))) hR
theorem RR_FB (hR : RR X tc cl σ) (h : FB σ σ') : RR X tc cl σ' :=
  RR_frame (fun a b hI => by
    by_cases ha : a = 0
    · subst ha; exact h.2 b (by unfold Im at hI; omega)
    · exact congrFun (h.1 a ha (by unfold Im at hI; omega) (by unfold Im at hI; omega)) b) (KV_keep hR.2.1.2.2.2 (h.1 1064 (by omega) (by omega) (by omega)) (h.1 65 (by omega) (by omega) (by omega))) hR
theorem RR_KX {H : Nat → Nat → Prop} (hH : ∀ a b, H a b → ¬ Im a b) (hR : RR X tc cl σ) (h : KX H σ σ') (hV : KV X tc σ') : RR X tc cl σ' :=
  RR_frame (fun a b hI => by
    by_cases ha : a = 51
    · subst ha; exact h.2 b (by unfold Im at hI; omega) (fun hh => hH _ _ hh hI)
    · exact h.1 a b ha (by unfold Im at hI; omega) (by unfold Im at hI; omega) (by unfold Im at hI; omega) (fun hh => hH _ _ hh hI)) hV hR
theorem RR_KM (hR : RR X tc cl σ) (h : KM σ σ') (hV : KV X tc σ') : RR X tc cl σ' := RR_KX (H := fun _ _ => False) (fun a b hh => hh.elim) hR (KM_KX h) hV
theorem HB_Im : ∀ a b, HB a b → ¬ Im a b := fun a b h hI => by unfold HB at h; unfold Im at hI; omega
theorem H71_Im : ∀ a b, H71 a b → ¬ Im a b := fun a b h hI => by unfold H71 at h; unfold Im at hI; omega
/-- the sheets' tales -/
theorem RR_ref (hR : RR X tc cl σ) {i : Nat} (hi : i < 4) : refC σ i = refM σ i := by
  have e8 : σ 1 8 = σ 51 18 := congrFun (congrFun hR.2.2.1 1) 8
  unfold refC refM
  rcases hR.2.2.2.2.2.1.2.2 i hi with ⟨h1, h2⟩ | ⟨h1, h2, h3, h4, _⟩
  · rw [if_pos h1, if_pos h2]
  · rw [if_neg h1, if_neg (show ¬ σ 75 i = 0 by omega), h4, e8]
theorem othF_cong {T : Sig} {it it' : Nat → Int} (h : ∀ q, q < slN T → it q = it' q) : othF X T it = othF X T it' := by
  unfold othF
  exact fstF_congr (fun q hq => by rw [h q hq])
theorem RR_it (hR : RR X tc cl σ) {i : Nat} (hi : i < 4) (h0 : refM σ i = 0) {T : Sig} (hT : slN T = slN (cM σ)) : othF X T (σ (47 + i)) = othF X T (fun q => σ 78 (40 * i + q)) := by
  refine othF_cong (fun q hq => ?_)
  unfold refM at h0
  rcases hR.2.2.2.2.2.1.2.2 i hi with ⟨h1, h2⟩ | ⟨h1, h2, h3, h4, h5⟩
  · rw [if_pos h2] at h0; omega
  · rw [if_neg (by omega)] at h0
    refine h5 q ?_
    have e : slN (cM σ) = (σ 51 18).toNat := slN_M
    split at h0
    · omega
    · omega
theorem trW_cong {T : Sig} {it it' : Nat → Int} {s : Nat} {p : Int × Int} (h : ∀ w : Nat, othF X (tS T s (T 9 s) w) it = othF X (tS T s (T 9 s) w) it') : ∀ w, trW X T it s w p = trW X T it' s w p
  | 0 => rfl
  | w + 1 => by simp only [trW]; rw [trW_cong h w, h w]
theorem trS_cong {T : Sig} {it it' : Nat → Int} (h : ∀ s w : Nat, othF X (tS T s (T 9 s) w) it = othF X (tS T s (T 9 s) w) it') : ∀ s, trS X T it s = trS X T it' s
  | 0 => rfl
  | s + 1 => by simp only [trS]; rw [trS_cong h s, trW_cong (h s) 4]
theorem wokF_cong {T : Sig} {it it' : Nat → Int} {s : Nat} (h : ∀ m : Nat, othF X (tS T s m (T 8 s)) it = othF X (tS T s m (T 8 s)) it') : ∀ m, wokF X T it s m = wokF X T it' s m
  | 0 => rfl
  | m + 1 => by simp only [wokF]; rw [wokF_cong h m, h m]
theorem slN_tS {T : Sig} {s : Nat} {m w : Int} : slN (tS T s m w) = slN T := by unfold slN; rw [tS_row (by omega) (by omega)]
theorem R_turned (hR : RR X tc cl σ) (v w : Int) : rTurned X (cT σ) (refC σ v.toNat) (σ (47 + v.toNat)) v w = rTurned X (cM σ) (refM σ v.toNat) (fun q => σ 78 (40 * v.toNat + q)) v w := by
  rw [hR.2.2.1]
  unfold rTurned
  by_cases hv : (0 ≤ v ∧ v < 4) ∧ (0 ≤ w ∧ w < 2)
  · have hi : v.toNat < 4 := by omega
    rw [if_pos hv, if_pos hv, RR_ref hR hi]
    by_cases h0 : refM σ v.toNat = 0
    · rw [trS_cong (it' := fun q => σ 78 (40 * v.toNat + q)) (fun s w => RR_it hR hi h0 slN_tS)]
    · rw [if_pos h0, if_pos h0]
  · rw [if_neg hv, if_neg hv]
theorem R_woke (hR : RR X tc cl σ) (v w : Int) : rWoke X (cT σ) (refC σ v.toNat) (σ (47 + v.toNat)) v w = rWoke X (cM σ) (refM σ v.toNat) (fun q => σ 78 (40 * v.toNat + q)) v w := by
  rw [hR.2.2.1]
  unfold rWoke
  by_cases hv : (0 ≤ v ∧ v < 4) ∧ (0 ≤ w ∧ w < cM σ 1 8)
  · have hi : v.toNat < 4 := by omega
    rw [if_pos hv, if_pos hv, RR_ref hR hi]
    by_cases h0 : refM σ v.toNat = 0
    · rw [wokF_cong (it' := fun q => σ 78 (40 * v.toNat + q)) (fun m => RR_it hR hi h0 slN_tS)]
    · rw [if_pos h0, if_pos h0]
  · rw [if_neg hv, if_neg hv]
theorem R_judge (hR : RR X tc cl σ) (v : Int) : rJudge X (cT σ) (refC σ v.toNat) (σ (47 + v.toNat)) v = rJudge X (cM σ) (refM σ v.toNat) (fun q => σ 78 (40 * v.toNat + q)) v := by
  rw [hR.2.2.1]
  unfold rJudge
  by_cases hv : 0 ≤ v ∧ v < 4
  · have hi : v.toNat < 4 := by omega
    rw [if_pos hv, if_pos hv, RR_ref hR hi]
    by_cases h0 : refM σ v.toNat = 0
    · rw [RR_it hR hi h0 rfl]
    · rw [if_pos h0, if_pos h0]
  · rw [if_neg hv, if_neg hv]
theorem refM_keep (h : ∀ a b, Im a b → σ' a b = σ a b) (i : Nat) : refM σ' i = refM σ i ∧ (fun q => σ' 78 (40 * i + q)) = fun q => σ 78 (40 * i + q) := by
  refine ⟨?_, funext fun q => h _ _ (by unfold Im; omega)⟩
  unfold refM
  rw [h 75 i (by unfold Im; omega), h 77 i (by unfold Im; omega), h 51 18 (by unfold Im; omega)]
end RRS