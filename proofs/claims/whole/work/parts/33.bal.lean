/-! the code, run by a stack (its top first), with the class's own guards -/
def binF (c x y : Int) : Int := if c = -7 then (if x ≠ 0 ∨ y ≠ 0 then 1 else 0) else if c = -8 then (if x ≠ 0 ∧ y ≠ 0 then 1 else 0) else if c = -10 then (if x < y then 1 else 0) else if c = -11 then (if x = y then 1 else 0) else if c = -12 then wrap (x + y) else if c = -13 then wrap (x - y) else wrap (x * y)
theorem binF_in (c x y : Int) : -2147483648 ≤ binF c x y ∧ binF c x y ≤ 2147483647 := by
  have h1 := wrap_in (x + y)
  have h2 := wrap_in (x - y)
  have h3 := wrap_in (x * y)
  unfold binF
  (repeat' split) <;> omega
def stepG (nm : Nat → Int) (c : Int) (st : List Int) : List Int :=
  if -7 < c ∧ st.length < 40 then (if 0 ≤ c then c else nm (-1 - c).toNat) :: st
  else if c = -9 ∧ 1 ≤ st.length then (match st with | x :: r => (if x = 0 then 1 else 0) :: r | [] => [])
  else if c = -15 ∧ 1 ≤ st.length then (match st with | x :: r => wrap (-x) :: r | [] => [])
  else match st with | y :: x :: r => binF c x y :: r | q => q
def runG (nm : Nat → Int) : List Int → List Int → List Int
  | [], st => st
  | c :: L, st => runG nm L (stepG nm c st)
theorem runG_app (nm : Nat → Int) : ∀ (L1 L2 st : List Int), runG nm (L1 ++ L2) st = runG nm L2 (runG nm L1 st)
  | [], _, _ => rfl
  | c :: L, L2, st => by
    show runG nm (L ++ L2) (stepG nm c st) = _
    rw [runG_app nm L L2]
    rfl
/-- running the code L lays v on the stack, if D more have room there -/
def Bal (nm : Nat → Int) (D : Nat) (L : List Int) (v : Int) : Prop := (-2147483648 ≤ v ∧ v ≤ 2147483647) ∧ ∀ st : List Int, st.length + D ≤ 40 → runG nm L st = v :: st
theorem bal_up {nm : Nat → Int} {D D' : Nat} {L : List Int} {v : Int} (h : Bal nm D L v) (hd : D ≤ D') : Bal nm D' L v := ⟨h.1, fun st hs => h.2 st (by omega)⟩
theorem bal_num {nm : Nat → Int} {c : Int} (h : 0 ≤ c ∧ c ≤ 2147483647) : Bal nm 1 [c] c := by
  refine ⟨by omega, fun st hs => ?_⟩
  show stepG nm c st = _
  unfold stepG
  rw [if_pos ⟨by omega, by omega⟩, if_pos (by omega)]
theorem bal_name {nm : Nat → Int} {j : Nat} (hj : j < 6) (h : -2147483648 ≤ nm j ∧ nm j ≤ 2147483647) : Bal nm 1 [-1 - (j : Int)] (nm j) := by
  refine ⟨h, fun st hs => ?_⟩
  show stepG nm _ st = _
  unfold stepG
  rw [if_pos ⟨by omega, by omega⟩, if_neg (by omega), show (-1 - (-1 - (j : Int))).toNat = j by omega]
theorem bal_neg {nm : Nat → Int} {D : Nat} {L : List Int} {v : Int} (h : Bal nm D L v) : Bal nm D (L ++ [-15]) (wrap (-v)) := by
  refine ⟨wrap_in _, fun st hs => ?_⟩
  rw [runG_app, h.2 st hs]
  show stepG nm (-15) (v :: st) = _
  unfold stepG
  rw [if_neg (by omega), if_neg (by omega), if_pos ⟨rfl, by simp⟩]
theorem bal_not {nm : Nat → Int} {D : Nat} {L : List Int} {v : Int} (h : Bal nm D L v) : Bal nm D (L ++ [-9]) (if v = 0 then 1 else 0) := by
  refine ⟨by split <;> omega, fun st hs => ?_⟩
  rw [runG_app, h.2 st hs]
  show stepG nm (-9) (v :: st) = _
  unfold stepG
  rw [if_neg (by omega), if_pos ⟨rfl, by simp⟩]
theorem bal_bin {nm : Nat → Int} {D D' : Nat} {L1 L2 : List Int} {v w c : Int} (hc : c = -7 ∨ c = -8 ∨ c = -10 ∨ c = -11 ∨ c = -12 ∨ c = -13 ∨ c = -14) (hd : D' + 1 ≤ D) (h : Bal nm D L1 v) (h2 : Bal nm D' L2 w) : Bal nm D (L1 ++ L2 ++ [c]) (binF c v w) := by
  refine ⟨binF_in c v w, fun st hs => ?_⟩
  rw [runG_app, runG_app, h.2 st hs, h2.2 (v :: st) (by simp only [List.length_cons]; omega)]
  show stepG nm c (w :: v :: st) = _
  unfold stepG
  rw [if_neg (by omega), if_neg (by omega), if_neg (by omega)]
theorem decV4 {b : Nat → Int} {a l : Nat} (hl : l ≤ 4) (h : ∀ j, j < l → 48 ≤ b (a + j) ∧ b (a + j) ≤ 57) : 0 ≤ decV b a l ∧ decV b a l ≤ 9999 := by
  have h1 := decV_in (b := b) (a := a) l h
  have h2 : (10 : Int) ^ l ≤ 10000 := by
    have : l = 0 ∨ l = 1 ∨ l = 2 ∨ l = 3 ∨ l = 4 := by omega
    rcases this with rfl | rfl | rfl | rfl | rfl <;> decide
  omega
theorem lx2 {b : Nat → Int} {n p : Nat} (h : lxT b n p = 2) : lxA b n p < n ∧ ¬ bL (b (lxA b n p)) = true ∧ bD (b (lxA b n p)) = true ∧ runF bD b (n - lxA b n p) (lxA b n p) ≤ 4 := by
  unfold lxT at h
  dsimp only at h
  by_cases h0 : n ≤ lxA b n p
  · rw [if_pos h0] at h; omega
  rw [if_neg h0] at h
  by_cases h1 : bL (b (lxA b n p)) = true
  · rw [if_pos h1] at h
    split at h
    · omega
    · split at h
      · rename_i h6 _; exact absurd h (by omega)
      · omega
  rw [if_neg h1] at h
  by_cases h2 : bD (b (lxA b n p)) = true
  · rw [if_pos h2] at h
    split at h
    · rename_i h4
      exact ⟨by omega, h1, h2, h4⟩
    · omega
  rw [if_neg h2] at h
  split at h
  · rename_i hs
    unfold bS at hs
    simp only [decide_eq_true_eq] at hs
    omega
  · omega
theorem lx2_val {b : Nat → Int} {n p : Nat} (h : lxT b n p = 2) : 0 ≤ lxV b n p ∧ lxV b n p ≤ 9999 := by
  obtain ⟨h0, h1, h2, h4⟩ := lx2 h
  unfold lxV
  dsimp only
  rw [if_neg h1]
  exact decV4 h4 (fun j hj => by
    have := runF_in (q := bD) (b := b) _ _ j hj
    unfold bD at this
    simpa using this)
theorem wIdx_le (b : Nat → Int) (a l : Nat) : wIdx b a l ≤ 12 := List.findIdx_le_length
theorem lxW {b : Nat → Int} {n p : Nat} (h : lxT b n p = 3 ∨ (4 ≤ lxT b n p ∧ lxT b n p ≤ 9)) : lxA b n p < n ∧ bL (b (lxA b n p)) = true ∧ lxV b n p = (wIdx b (lxA b n p) (runF bL b (n - lxA b n p) (lxA b n p)) : Int) ∧ lxT b n p = (if wIdx b (lxA b n p) (runF bL b (n - lxA b n p) (lxA b n p)) < 6 then 3 else (wIdx b (lxA b n p) (runF bL b (n - lxA b n p) (lxA b n p)) : Int) - 2) ∧ wIdx b (lxA b n p) (runF bL b (n - lxA b n p) (lxA b n p)) < 12 := by
  unfold lxV
  unfold lxT at h ⊢
  dsimp only at h ⊢
  by_cases h0 : n ≤ lxA b n p
  · rw [if_pos h0] at h; omega
  rw [if_neg h0] at h ⊢
  by_cases h1 : bL (b (lxA b n p)) = true
  · rw [if_pos h1] at h ⊢
    rw [if_pos h1]
    refine ⟨by omega, h1, rfl, ?_, ?_⟩
    · split
      · rfl
      · rename_i h6
        rw [if_neg h6] at h
        split
        · rfl
        · rename_i h12
          rw [if_neg h12] at h
          omega
    · by_cases h12 : wIdx b (lxA b n p) (runF bL b (n - lxA b n p) (lxA b n p)) < 12
      · exact h12
      · rw [if_neg (by omega), if_neg h12] at h; omega
  rw [if_neg h1] at h
  by_cases h2 : bD (b (lxA b n p)) = true
  · rw [if_pos h2] at h
    split at h <;> omega
  rw [if_neg h2] at h
  split at h
  · rename_i hs
    unfold bS at hs
    simp only [decide_eq_true_eq] at hs
    omega
  · omega
theorem lx3_val {b : Nat → Int} {n p : Nat} (h : lxT b n p = 3) : ∃ j : Nat, j < 6 ∧ lxV b n p = j := by
  obtain ⟨h0, h1, h2, h3, h4⟩ := lxW (Or.inl h)
  rw [h] at h3
  refine ⟨_, ?_, h2⟩
  split at h3
  · assumption
  · omega
/-- what a parser's answers keep -/
def GQ (b : Nat → Int) (n : Nat) (D : Nat) (q : Nat → Pr) : Prop := ∀ p, p ≤ n → ∀ p' L, q p = .inl (p', L) → p + L.length ≤ p' ∧ p' ≤ n ∧ p < p' ∧ ∀ nm : Nat → Int, (∀ j, -2147483648 ≤ nm j ∧ nm j ≤ 2147483647) → ∃ v, Bal nm D L v
def opOk (op : Int → Option Int) : Prop := ∀ t c, op t = some c → t ≠ 0 ∧ (c = -7 ∨ c = -8 ∨ c = -10 ∨ c = -11 ∨ c = -12 ∨ c = -13 ∨ c = -14)
theorem opMul_ok : opOk opMul := by intro t c h; unfold opMul at h; split at h <;> simp at h; omega
theorem opAdd_ok : opOk opAdd := by
  intro t c h; unfold opAdd at h
  split at h
  · simp at h; omega
  · split at h <;> simp at h; omega
theorem opAnd_ok : opOk opAnd := by intro t c h; unfold opAnd at h; split at h <;> simp at h; omega
theorem opOr_ok : opOk opOr := by intro t c h; unfold opOr at h; split at h <;> simp at h; omega
theorem pChain_GQ {b : Nat → Int} {n D D' : Nat} {op : Int → Option Int} {q : Nat → Pr} (ho : opOk op) (hd : D' + 1 ≤ D) (hq : GQ b n D' q) {p : Nat} : ∀ f p1 L1, p + L1.length ≤ p1 → p1 ≤ n → p < p1 → (∀ nm : Nat → Int, (∀ j, -2147483648 ≤ nm j ∧ nm j ≤ 2147483647) → ∃ v, Bal nm D L1 v) → ∀ p' L, pChain b n op q f (p1, L1) = .inl (p', L) → p + L.length ≤ p' ∧ p' ≤ n ∧ p < p' ∧ ∀ nm : Nat → Int, (∀ j, -2147483648 ≤ nm j ∧ nm j ≤ 2147483647) → ∃ v, Bal nm D L v
  | 0, p1, L1, h1, h2, h3, h4, p', L, h => by
    simp only [pChain, Sum.inl.injEq, Prod.mk.injEq] at h
    obtain ⟨rfl, rfl⟩ := h
    exact ⟨h1, h2, h3, h4⟩
  | f + 1, p1, L1, h1, h2, h3, h4, p', L, h => by
    simp only [pChain] at h
    split at h
    · simp only [Sum.inl.injEq, Prod.mk.injEq] at h
      obtain ⟨rfl, rfl⟩ := h
      exact ⟨h1, h2, h3, h4⟩
    · rename_i c hc
      obtain ⟨t0, hcc⟩ := ho _ _ hc
      have hlt := lxE_lt (b := b) (n := n) (p := p1) t0
      have hle := lxE_le (b := b) (n := n) (p := p1) h2
      split at h
      · rename_i p2 L2 hqq
        obtain ⟨a1, a2, a3, a4⟩ := hq _ hle _ _ hqq
        refine pChain_GQ ho hd hq f p2 _ ?_ a2 (by omega) ?_ p' L h
        · simp only [List.length_append, List.length_cons, List.length_nil]; omega
        · intro nm hnm
          obtain ⟨v, hv⟩ := h4 nm hnm
          obtain ⟨w, hw⟩ := a4 nm hnm
          exact ⟨_, bal_bin hcc hd hv hw⟩
      · cases h
theorem pSeq_GQ {b : Nat → Int} {n D D' : Nat} {op : Int → Option Int} {q : Nat → Pr} (ho : opOk op) (hd : D' + 1 ≤ D) (hq : GQ b n D' q) : GQ b n D (pSeq b n op q) := by
  intro p hp p' L h
  unfold pSeq at h
  split at h
  · rename_i r hr
    obtain ⟨p1, L1⟩ := r
    obtain ⟨a1, a2, a3, a4⟩ := hq p hp _ _ hr
    exact pChain_GQ ho hd hq 160 p1 L1 a1 a2 a3 (fun nm hnm => by obtain ⟨v, hv⟩ := a4 nm hnm; exact ⟨v, bal_up hv (by omega)⟩) p' L h
  · cases h
theorem pCmp_GQ {b : Nat → Int} {n D D' : Nat} {q : Nat → Pr} (hd : D' + 1 ≤ D) (hq : GQ b n D' q) : GQ b n D (pCmp b n q) := by
  intro p hp p' L h
  unfold pCmp at h
  split at h
  · cases h
  · rename_i p1 L1 hr
    obtain ⟨a1, a2, a3, a4⟩ := hq p hp _ _ hr
    split at h
    · rename_i ht
      have hlt := lxE_lt (b := b) (n := n) (p := p1) (by omega)
      have hle := lxE_le (b := b) (n := n) (p := p1) a2
      split at h
      · cases h
      · rename_i p2 L2 hr2
        obtain ⟨b1, b2, b3, b4⟩ := hq _ hle _ _ hr2
        simp only [Sum.inl.injEq, Prod.mk.injEq] at h
        obtain ⟨rfl, rfl⟩ := h
        refine ⟨?_, b2, by omega, fun nm hnm => ?_⟩
        · simp only [List.length_append, List.length_cons, List.length_nil]; omega
        · obtain ⟨v, hv⟩ := a4 nm hnm
          obtain ⟨w, hw⟩ := b4 nm hnm
          exact ⟨_, bal_bin (by split <;> omega) hd (bal_up hv (by omega)) hw⟩
    · simp only [Sum.inl.injEq, Prod.mk.injEq] at h
      obtain ⟨rfl, rfl⟩ := h
      exact ⟨a1, a2, a3, fun nm hnm => by obtain ⟨v, hv⟩ := a4 nm hnm; exact ⟨v, bal_up hv (by omega)⟩⟩
theorem GQ_tok {b : Nat → Int} {n p : Nat} (hp : p ≤ n) (ht : lxT b n p ≠ 0) : p < lxE b n p ∧ lxE b n p ≤ n := ⟨lxE_lt ht, lxE_le hp⟩
theorem pOne_GQ {b : Nat → Int} {n : Nat} {k : Nat} (h1 : ∀ k', k' + 1 = k → GQ b n (5 * k' + 1) (pOne b n k')) (h2 : ∀ k', k' + 1 = k → GQ b n (5 * k' + 6) (pOr b n k')) : GQ b n (5 * k + 1) (pOne b n k) := by
  intro p hp p' L h
  by_cases t2 : lxT b n p = 2
  · rw [pOne_num t2] at h
    simp only [Sum.inl.injEq, Prod.mk.injEq] at h
    obtain ⟨rfl, rfl⟩ := h
    obtain ⟨a1, a2⟩ := GQ_tok hp (show lxT b n p ≠ 0 by omega)
    have hv := lx2_val t2
    exact ⟨by simp only [List.length_cons, List.length_nil]; omega, a2, a1, fun nm _ => ⟨_, bal_up (bal_num ⟨hv.1, by omega⟩) (by omega)⟩⟩
  by_cases t3 : lxT b n p = 3
  · rw [pOne_name t3] at h
    simp only [Sum.inl.injEq, Prod.mk.injEq] at h
    obtain ⟨rfl, rfl⟩ := h
    obtain ⟨a1, a2⟩ := GQ_tok hp (show lxT b n p ≠ 0 by omega)
    obtain ⟨j, hj, hv⟩ := lx3_val t3
    exact ⟨by simp only [List.length_cons, List.length_nil]; omega, a2, a1, fun nm hnm => ⟨_, by rw [hv]; exact bal_up (bal_name hj (hnm j)) (by omega)⟩⟩
  cases k with
  | zero => rw [pOne_bad t2 t3 (Or.inl rfl)] at h; cases h
  | succ k =>
    by_cases t45 : lxT b n p = 45
    · rw [pOne_neg t45] at h
      obtain ⟨c1, c2⟩ := GQ_tok hp (show lxT b n p ≠ 0 by omega)
      split at h
      · cases h
      · rename_i p1 L1 hr
        obtain ⟨a1, a2, a3, a4⟩ := h1 k rfl _ c2 _ _ hr
        simp only [Sum.inl.injEq, Prod.mk.injEq] at h
        obtain ⟨rfl, rfl⟩ := h
        refine ⟨by simp only [List.length_append, List.length_cons, List.length_nil]; omega, a2, by omega, fun nm hnm => ?_⟩
        obtain ⟨v, hv⟩ := a4 nm hnm
        exact ⟨_, bal_up (bal_neg hv) (by omega)⟩
    by_cases t40 : lxT b n p = 40
    · rw [pOne_par t40] at h
      obtain ⟨c1, c2⟩ := GQ_tok hp (show lxT b n p ≠ 0 by omega)
      split at h
      · cases h
      · rename_i p1 L1 hr
        obtain ⟨a1, a2, a3, a4⟩ := h2 k rfl _ c2 _ _ hr
        split at h
        · rename_i t41
          simp only [Sum.inl.injEq, Prod.mk.injEq] at h
          obtain ⟨rfl, rfl⟩ := h
          obtain ⟨d1, d2⟩ := GQ_tok a2 (show lxT b n p1 ≠ 0 by omega)
          refine ⟨by omega, d2, by omega, fun nm hnm => ?_⟩
          obtain ⟨v, hv⟩ := a4 nm hnm
          exact ⟨v, bal_up hv (by omega)⟩
        · cases h
    · rw [pOne_bad t2 t3 (Or.inr ⟨t45, t40⟩)] at h; cases h
theorem pNot_GQ {b : Nat → Int} {n : Nat} {k : Nat} (h1 : GQ b n (5 * k + 1) (pOne b n k)) (h2 : ∀ k', k' + 1 = k → GQ b n (5 * k' + 4) (pNot b n k')) : GQ b n (5 * k + 4) (pNot b n k) := by
  have hs : GQ b n (5 * k + 4) (pCmp b n (pSum b n k)) := pCmp_GQ (D' := 5 * k + 3) (by omega) (pSeq_GQ (D' := 5 * k + 2) opAdd_ok (by omega) (pSeq_GQ opMul_ok (by omega) h1))
  intro p hp p' L h
  by_cases t9 : lxT b n p = 9
  · cases k with
    | zero => rw [pNot_0 t9] at h; cases h
    | succ k =>
      rw [pNot_s t9] at h
      obtain ⟨c1, c2⟩ := GQ_tok hp (show lxT b n p ≠ 0 by omega)
      split at h
      · cases h
      · rename_i p1 L1 hr
        obtain ⟨a1, a2, a3, a4⟩ := h2 k rfl _ c2 _ _ hr
        simp only [Sum.inl.injEq, Prod.mk.injEq] at h
        obtain ⟨rfl, rfl⟩ := h
        refine ⟨by simp only [List.length_append, List.length_cons, List.length_nil]; omega, a2, by omega, fun nm hnm => ?_⟩
        obtain ⟨v, hv⟩ := a4 nm hnm
        exact ⟨_, bal_up (bal_not hv) (by omega)⟩
  · rw [pNot_n t9] at h
    exact hs p hp p' L h
theorem parse_GQ (b : Nat → Int) (n : Nat) : ∀ k, GQ b n (5 * k + 1) (pOne b n k) ∧ GQ b n (5 * k + 4) (pNot b n k) ∧ GQ b n (5 * k + 6) (pOr b n k)
  | 0 => by
    have h1 := pOne_GQ (b := b) (n := n) (k := 0) (fun k' h => absurd h (by omega)) (fun k' h => absurd h (by omega))
    have h2 := pNot_GQ h1 (fun k' h => absurd h (by omega))
    refine ⟨h1, h2, ?_⟩
    rw [pOr_eq]
    exact pSeq_GQ (D' := 5) opOr_ok (by omega) (pSeq_GQ opAnd_ok (by omega) h2)
  | k + 1 => by
    obtain ⟨i1, i2, i3⟩ := parse_GQ b n k
    have h1 := pOne_GQ (b := b) (n := n) (k := k + 1) (fun k' h => by cases h; exact i1) (fun k' h => by cases h; exact i3)
    have h2 := pNot_GQ h1 (fun k' h => by cases h; exact i2)
    refine ⟨h1, h2, ?_⟩
    rw [pOr_eq]
    exact pSeq_GQ (D' := 5 * (k + 1) + 5) opOr_ok (by omega) (pSeq_GQ opAnd_ok (by omega) h2)
theorem pTerm_GQ (b : Nat → Int) (n k : Nat) : GQ b n (5 * k + 2) (pTerm b n k) := pSeq_GQ opMul_ok (by omega) (parse_GQ b n k).1
theorem pSum_GQ (b : Nat → Int) (n k : Nat) : GQ b n (5 * k + 3) (pSum b n k) := pSeq_GQ opAdd_ok (by omega) (pTerm_GQ b n k)
theorem pAnd_GQ (b : Nat → Int) (n k : Nat) : GQ b n (5 * k + 5) (pAnd b n k) := pSeq_GQ opAnd_ok (by omega) (parse_GQ b n k).2.1
/-! a text's three parts -/
def pPart (b : Nat → Int) (n : Nat) (key : Int) (p : Nat) : Pr := if lxT b n p = key then (match pOr b n 5 (lxE b n p) with
    | .inr a => .inr a
    | .inl (p1, L) => if lxT b n p1 = 59 then .inl (lxE b n p1, L) else .inr (lxA b n p1)) else .inr (lxA b n p)
def pText (b : Nat → Int) (n : Nat) : (List Int × List Int × List Int) ⊕ Nat := match pPart b n 4 0 with
  | .inr a => .inr a
  | .inl (p1, L1) => match pPart b n 5 p1 with
    | .inr a => .inr a
    | .inl (p2, L2) => match pPart b n 6 p2 with
      | .inr a => .inr a
      | .inl (p3, L3) => if lxT b n p3 = 0 then .inl (L1, L2, L3) else .inr (lxA b n p3)
theorem pPart_GQ {b : Nat → Int} {n : Nat} {key : Int} (hk : key ≠ 0) : GQ b n 31 (pPart b n key) := by
  intro p hp p' L h
  unfold pPart at h
  split at h
  · rename_i ht
    obtain ⟨c1, c2⟩ := GQ_tok hp (show lxT b n p ≠ 0 by omega)
    split at h
    · cases h
    · rename_i p1 L1 hr
      obtain ⟨a1, a2, a3, a4⟩ := (parse_GQ b n 5).2.2 _ c2 _ _ hr
      split at h
      · rename_i t59
        simp only [Sum.inl.injEq, Prod.mk.injEq] at h
        obtain ⟨rfl, rfl⟩ := h
        obtain ⟨d1, d2⟩ := GQ_tok a2 (show lxT b n p1 ≠ 0 by omega)
        exact ⟨by omega, d2, by omega, a4⟩
      · cases h
  · cases h
/-- what a part of a text says -/
def evL (nm : Nat → Int) (L : List Int) : Int := (runG nm L []).headD 0
theorem evL_bal {nm : Nat → Int} {D : Nat} {L : List Int} {v : Int} (h : Bal nm D L v) (hd : D ≤ 40) : evL nm L = v := by
  unfold evL
  rw [h.2 [] (by simpa using hd)]
  rfl
/-- a text's parts are well made -/
def WL (L : List Int) : Prop := ∀ nm : Nat → Int, (∀ j, -2147483648 ≤ nm j ∧ nm j ≤ 2147483647) → ∃ v, Bal nm 31 L v
theorem pText_WL {b : Nat → Int} {n : Nat} {L1 L2 L3 : List Int} (h : pText b n = .inl (L1, L2, L3)) : WL L1 ∧ WL L2 ∧ WL L3 ∧ L1.length + L2.length + L3.length ≤ n := by
  unfold pText at h
  split at h
  · cases h
  · rename_i p1 M1 hr1
    obtain ⟨a1, a2, a3, a4⟩ := pPart_GQ (show (4 : Int) ≠ 0 by decide) 0 (Nat.zero_le _) _ _ hr1
    split at h
    · cases h
    · rename_i p2 M2 hr2
      obtain ⟨b1, b2, b3, b4⟩ := pPart_GQ (show (5 : Int) ≠ 0 by decide) _ a2 _ _ hr2
      split at h
      · cases h
      · rename_i p3 M3 hr3
        obtain ⟨c1, c2, c3, c4⟩ := pPart_GQ (show (6 : Int) ≠ 0 by decide) _ b2 _ _ hr3
        split at h
        · simp only [Sum.inl.injEq, Prod.mk.injEq] at h
          obtain ⟨rfl, rfl, rfl⟩ := h
          exact ⟨a4, b4, c4, by omega⟩
        · cases h
