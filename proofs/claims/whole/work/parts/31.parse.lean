/-! tokens of a text: bytes b, size n; from the place p on -/
def isL (x : Int) : Prop := 97 ≤ x ∧ x ≤ 122
def isD (x : Int) : Prop := 48 ≤ x ∧ x ≤ 57
def isB (x : Int) : Prop := x = 32 ∨ x = 10
def isS (x : Int) : Prop := x = 40 ∨ x = 41 ∨ x = 59 ∨ x = 43 ∨ x = 45 ∨ x = 42 ∨ x = 60 ∨ x = 61
/-- how many bytes of a kind stand one behind the other from p on, at most f -/
def runF (q : Int → Bool) (b : Nat → Int) : Nat → Nat → Nat
  | 0, _ => 0
  | f + 1, p => if q (b p) then runF q b f (p + 1) + 1 else 0
def bB (x : Int) : Bool := decide (x = 32 ∨ x = 10)
def bL (x : Int) : Bool := decide (97 ≤ x ∧ x ≤ 122)
def bD (x : Int) : Bool := decide (48 ≤ x ∧ x ≤ 57)
def bS (x : Int) : Bool := decide (x = 40 ∨ x = 41 ∨ x = 59 ∨ x = 43 ∨ x = 45 ∨ x = 42 ∨ x = 60 ∨ x = 61)
theorem runF_le (q : Int → Bool) (b : Nat → Int) : ∀ f p, runF q b f p ≤ f
  | 0, _ => Nat.le_refl _
  | f + 1, p => by
    have := runF_le q b f (p + 1)
    simp only [runF]
    split <;> omega
theorem runF_in {q : Int → Bool} {b : Nat → Int} : ∀ f p j, j < runF q b f p → q (b (p + j)) = true
  | 0, _, j, h => by simp [runF] at h
  | f + 1, p, j, h => by
    simp only [runF] at h
    split at h
    · cases j with
      | zero => assumption
      | succ j =>
        have := runF_in (q := q) (b := b) f (p + 1) j (by omega)
        rwa [show p + 1 + j = p + (j + 1) by omega] at this
    · omega
theorem runF_end {q : Int → Bool} {b : Nat → Int} : ∀ f p, runF q b f p < f → q (b (p + runF q b f p)) = false
  | 0, _, h => by omega
  | f + 1, p, h => by
    simp only [runF] at h ⊢
    split
    · rename_i hq
      rw [if_pos hq] at h
      have := runF_end (q := q) (b := b) f (p + 1) (by omega)
      rwa [show p + 1 + runF q b f (p + 1) = p + (runF q b f (p + 1) + 1) by omega] at this
    · rename_i hq
      simpa using hq
/-- a run is the number r of places at which q holds, if it ends there -/
theorem runF_eq {q : Int → Bool} {b : Nat → Int} : ∀ f p r, r ≤ f → (∀ j, j < r → q (b (p + j)) = true) → (r < f → q (b (p + r)) = false) → runF q b f p = r
  | 0, p, r, h, _, _ => by simp [runF]; omega
  | f + 1, p, 0, h, h1, h2 => by
    have := h2 (by omega)
    simp only [runF]
    rw [if_neg (by simpa using this)]
  | f + 1, p, r + 1, h, h1, h2 => by
    have h0 : q (b p) = true := h1 0 (by omega)
    simp only [runF]
    rw [if_pos h0, runF_eq f (p + 1) r (by omega) (fun j hj => by rw [show p + 1 + j = p + (j + 1) by omega]; exact h1 (j + 1) (by omega)) (fun hr => by rw [show p + 1 + r = p + (r + 1) by omega]; exact h2 (by omega))]
/-- where the token begins -/
def lxA (b : Nat → Int) (n p : Nat) : Nat := p + runF bB b (n - p) p
def wordsL : List (List Int) := [[102, 97, 114], [109, 105, 110, 117, 116, 101], [102, 111, 103], [104, 105, 103, 104], [111, 110, 101], [116, 104, 105, 110, 103], [115, 101, 101, 115], [119, 111, 114, 116, 104], [115, 108, 101, 101, 112], [111, 114], [97, 110, 100], [110, 111, 116]]
/-- whether the bytes from a on, l of them, are those of a word -/
def spel (b : Nat → Int) (a l : Nat) (w : List Int) : Bool := decide (l = w.length) && (List.range l).all (fun j => decide (b (a + j) = w.getD j 0))
/-- which word it is (12: none) -/
def wIdx (b : Nat → Int) (a l : Nat) : Nat := wordsL.findIdx (spel b a l)
/-- where the token ends -/
def lxE (b : Nat → Int) (n p : Nat) : Nat :=
  let a := lxA b n p
  if n ≤ a then a else if bL (b a) then a + runF bL b (n - a) a else if bD (b a) then a + runF bD b (n - a) a else a + 1
/-- the token: 0 the end, 1 a wrong one, 2 a number, 3 a name, 4 .. 9 the keys, a sign's own byte -/
def lxT (b : Nat → Int) (n p : Nat) : Int :=
  let a := lxA b n p
  if n ≤ a then 0 else if bL (b a) then (let w := wIdx b a (runF bL b (n - a) a); if w < 6 then 3 else if w < 12 then (w : Int) - 2 else 1) else if bD (b a) then (if runF bD b (n - a) a ≤ 4 then 2 else 1) else if bS (b a) then b a else 1
def decV (b : Nat → Int) (a : Nat) : Nat → Int
  | 0 => 0
  | l + 1 => 10 * decV b a l + b (a + l) - 48
/-- a number's worth, a name's place -/
def lxV (b : Nat → Int) (n p : Nat) : Int :=
  let a := lxA b n p
  if bL (b a) then (wIdx b a (runF bL b (n - a) a) : Int) else decV b a (runF bD b (n - a) a)
theorem lxA_ge (b : Nat → Int) (n p : Nat) : p ≤ lxA b n p := Nat.le_add_right _ _
theorem lxA_le {b : Nat → Int} {n p : Nat} (h : p ≤ n) : lxA b n p ≤ n := by
  have := runF_le bB b (n - p) p
  unfold lxA
  omega
theorem runF_pos {q : Int → Bool} {b : Nat → Int} {f p : Nat} (hf : 0 < f) (hq : q (b p) = true) : 0 < runF q b f p := by
  cases f with
  | zero => omega
  | succ f => simp only [runF]; rw [if_pos hq]; omega
theorem lxE_ge (b : Nat → Int) (n p : Nat) : lxA b n p ≤ lxE b n p := by
  unfold lxE
  dsimp only
  (repeat' split) <;> omega
theorem lxE_le {b : Nat → Int} {n p : Nat} (h : p ≤ n) : lxE b n p ≤ n := by
  have h1 := lxA_le (b := b) h
  have h2 := runF_le bL b (n - lxA b n p) (lxA b n p)
  have h3 := runF_le bD b (n - lxA b n p) (lxA b n p)
  unfold lxE
  dsimp only
  (repeat' split) <;> omega
/-- a token that isn't the end has bytes -/
theorem lxE_gt {b : Nat → Int} {n p : Nat} (ht : lxT b n p ≠ 0) : lxA b n p < lxE b n p := by
  unfold lxT at ht
  unfold lxE
  dsimp only at ht ⊢
  by_cases h0 : n ≤ lxA b n p
  · rw [if_pos h0] at ht; exact absurd rfl ht
  · rw [if_neg h0]
    by_cases h1 : bL (b (lxA b n p)) = true
    · rw [if_pos h1]
      have := runF_pos (q := bL) (b := b) (f := n - lxA b n p) (p := lxA b n p) (by omega) h1
      omega
    · rw [if_neg h1]
      by_cases h2 : bD (b (lxA b n p)) = true
      · rw [if_pos h2]
        have := runF_pos (q := bD) (b := b) (f := n - lxA b n p) (p := lxA b n p) (by omega) h2
        omega
      · rw [if_neg h2]; omega
theorem lxE_lt {b : Nat → Int} {n p : Nat} (ht : lxT b n p ≠ 0) : p < lxE b n p := Nat.lt_of_le_of_lt (lxA_ge b n p) (lxE_gt ht)
/-! the parser: its answer is the place behind with the code, or the place of the fault -/
abbrev Pr : Type := (Nat × List Int) ⊕ Nat
/-- one behind the other, an operation between them -/
def pChain (b : Nat → Int) (n : Nat) (op : Int → Option Int) (q : Nat → Pr) : Nat → Nat × List Int → Pr
  | 0, r => .inl r
  | f + 1, r => match op (lxT b n r.1) with
    | none => .inl r
    | some c => match q (lxE b n r.1) with
      | .inl (p2, L2) => pChain b n op q f (p2, r.2 ++ L2 ++ [c])
      | .inr a => .inr a
def pSeq (b : Nat → Int) (n : Nat) (op : Int → Option Int) (q : Nat → Pr) (p : Nat) : Pr := match q p with
  | .inl r => pChain b n op q 160 r
  | .inr a => .inr a
def opMul (t : Int) : Option Int := if t = 42 then some (-14) else none
def opAdd (t : Int) : Option Int := if t = 43 then some (-12) else if t = 45 then some (-13) else none
def opAnd (t : Int) : Option Int := if t = 8 then some (-8) else none
def opOr (t : Int) : Option Int := if t = 7 then some (-7) else none
def pCmp (b : Nat → Int) (n : Nat) (q : Nat → Pr) (p : Nat) : Pr := match q p with
  | .inr a => .inr a
  | .inl (p1, L1) => if lxT b n p1 = 60 ∨ lxT b n p1 = 61 then (match q (lxE b n p1) with
      | .inr a => .inr a
      | .inl (p2, L2) => .inl (p2, L1 ++ L2 ++ [if lxT b n p1 = 60 then -10 else -11])) else .inl (p1, L1)
/-- a ONE, a NOT, an E, with so many more that may be open -/
def pAll (b : Nat → Int) (n : Nat) : Nat → (Nat → Pr) × (Nat → Pr) × (Nat → Pr)
  | 0 =>
    let one : Nat → Pr := fun p => if lxT b n p = 2 then .inl (lxE b n p, [lxV b n p]) else if lxT b n p = 3 then .inl (lxE b n p, [-1 - lxV b n p]) else .inr (lxA b n p)
    let nt : Nat → Pr := fun p => if lxT b n p = 9 then .inr (lxA b n p) else pCmp b n (pSeq b n opAdd (pSeq b n opMul one)) p
    (one, nt, pSeq b n opOr (pSeq b n opAnd nt))
  | k + 1 =>
    let r := pAll b n k
    let one : Nat → Pr := fun p => if lxT b n p = 2 then .inl (lxE b n p, [lxV b n p]) else if lxT b n p = 3 then .inl (lxE b n p, [-1 - lxV b n p]) else
      if lxT b n p = 45 then (match r.1 (lxE b n p) with
        | .inr a => .inr a
        | .inl (p1, L) => .inl (p1, L ++ [-15]))
      else if lxT b n p = 40 then (match r.2.2 (lxE b n p) with
        | .inr a => .inr a
        | .inl (p1, L) => if lxT b n p1 = 41 then .inl (lxE b n p1, L) else .inr (lxA b n p1))
      else .inr (lxA b n p)
    let nt : Nat → Pr := fun p => if lxT b n p = 9 then (match r.2.1 (lxE b n p) with
        | .inr a => .inr a
        | .inl (p1, L) => .inl (p1, L ++ [-9])) else pCmp b n (pSeq b n opAdd (pSeq b n opMul one)) p
    (one, nt, pSeq b n opOr (pSeq b n opAnd nt))
def pOne (b : Nat → Int) (n k : Nat) : Nat → Pr := (pAll b n k).1
def pNot (b : Nat → Int) (n k : Nat) : Nat → Pr := (pAll b n k).2.1
def pOr (b : Nat → Int) (n k : Nat) : Nat → Pr := (pAll b n k).2.2
def pTerm (b : Nat → Int) (n k : Nat) : Nat → Pr := pSeq b n opMul (pOne b n k)
def pSum (b : Nat → Int) (n k : Nat) : Nat → Pr := pSeq b n opAdd (pTerm b n k)
def pAnd (b : Nat → Int) (n k : Nat) : Nat → Pr := pSeq b n opAnd (pNot b n k)
theorem pOr_eq (b : Nat → Int) (n k : Nat) : pOr b n k = pSeq b n opOr (pAnd b n k) := by cases k <;> rfl
theorem pNot_n {b : Nat → Int} {n k p : Nat} (h : lxT b n p ≠ 9) : pNot b n k p = pCmp b n (pSum b n k) p := by
  cases k <;> (show (if _ then _ else _) = _) <;> rw [if_neg h] <;> rfl
theorem pNot_0 {b : Nat → Int} {n p : Nat} (h : lxT b n p = 9) : pNot b n 0 p = .inr (lxA b n p) := by
  show (if _ then _ else _) = _
  rw [if_pos h]
theorem pNot_s {b : Nat → Int} {n k p : Nat} (h : lxT b n p = 9) : pNot b n (k + 1) p = (match pNot b n k (lxE b n p) with
        | .inr a => .inr a
        | .inl (p1, L) => .inl (p1, L ++ [-9])) := by
  show (if _ then _ else _) = _
  rw [if_pos h]
  rfl
theorem pOne_num {b : Nat → Int} {n k p : Nat} (h : lxT b n p = 2) : pOne b n k p = .inl (lxE b n p, [lxV b n p]) := by
  cases k <;> (show (if _ then _ else _) = _) <;> rw [if_pos h]
theorem pOne_name {b : Nat → Int} {n k p : Nat} (h : lxT b n p = 3) : pOne b n k p = .inl (lxE b n p, [-1 - lxV b n p]) := by
  cases k <;> (show (if _ then _ else _) = _) <;> rw [if_neg (by omega), if_pos h]
theorem pOne_neg {b : Nat → Int} {n k p : Nat} (h : lxT b n p = 45) : pOne b n (k + 1) p = (match pOne b n k (lxE b n p) with
        | .inr a => .inr a
        | .inl (p1, L) => .inl (p1, L ++ [-15])) := by
  show (if _ then _ else _) = _
  rw [if_neg (by omega), if_neg (by omega), if_pos h]
  rfl
theorem pOne_par {b : Nat → Int} {n k p : Nat} (h : lxT b n p = 40) : pOne b n (k + 1) p = (match pOr b n k (lxE b n p) with
        | .inr a => .inr a
        | .inl (p1, L) => if lxT b n p1 = 41 then .inl (lxE b n p1, L) else .inr (lxA b n p1)) := by
  show (if _ then _ else _) = _
  rw [if_neg (by omega), if_neg (by omega), if_neg (by omega), if_pos h]
  rfl
theorem pOne_bad {b : Nat → Int} {n k p : Nat} (h2 : lxT b n p ≠ 2) (h3 : lxT b n p ≠ 3) (h : k = 0 ∨ (lxT b n p ≠ 45 ∧ lxT b n p ≠ 40)) : pOne b n k p = .inr (lxA b n p) := by
  cases k with
  | zero =>
    show (if _ then _ else _) = _
    rw [if_neg h2, if_neg h3]
  | succ k =>
    show (if _ then _ else _) = _
    rw [if_neg h2, if_neg h3, if_neg (by omega), if_neg (by omega)]
