/-! mornings: what both have of a town (what does not matter is 0), and what is seen, in whose order, had, left -/
def cT (σ : Sig) : Sig := fun a b => match a with
  | 1 => if b = 1 ∨ b = 2 ∨ b = 3 ∨ b = 8 then σ 1 b else 0
  | 2 => σ 2 b
  | 3 => σ 3 b
  | 4 => σ 4 b
  | 5 => σ 5 b
  | 6 => if (b : Int) < σ 1 3 then σ 6 b else 0
  | 7 => σ 7 b
  | 8 => σ 8 b
  | 9 => σ 9 b
  | 10 => if (b : Int) < σ 1 8 then σ 10 b else 0
  | _ => 0
theorem cT_11 {σ : Sig} : cT σ 1 1 = σ 1 1 := rfl
theorem cT_12 {σ : Sig} : cT σ 1 2 = σ 1 2 := rfl
theorem cT_13 {σ : Sig} : cT σ 1 3 = σ 1 3 := rfl
theorem cT_18 {σ : Sig} : cT σ 1 8 = σ 1 8 := rfl
theorem cT_6 {σ : Sig} {b : Nat} (h : (b : Int) < σ 1 3) : cT σ 6 b = σ 6 b := if_pos h
theorem cT_10 {σ : Sig} {b : Nat} (h : (b : Int) < σ 1 8) : cT σ 10 b = σ 10 b := if_pos h
theorem TI_cT {σ : Sig} (h : TI σ) : TI (cT σ) := by
  obtain ⟨h1, h2, h3, h4, h5⟩ := h
  refine ⟨h1, h2, h3, h4, fun i => ?_⟩
  obtain ⟨a1, a2, a3, a4, a5, a6, a7, a8, a9⟩ := h5 i
  refine ⟨a1, a2, a3, a4, ?_, a6, a7, a8, ?_⟩
  · show 0 ≤ (if (i : Int) < σ 1 3 then σ 6 i else 0) ∧ (if (i : Int) < σ 1 3 then σ 6 i else 0) ≤ 5
    split <;> omega
  · show 0 ≤ (if (i : Int) < σ 1 8 then σ 10 i else 0) ∧ (if (i : Int) < σ 1 8 then σ 10 i else 0) ≤ 99
    split <;> omega
theorem cT_keep {σ σ' : Sig} (h : ∀ a, a ≤ 10 → σ' a = σ a) : cT σ' = cT σ := by
  funext a b
  unfold cT
  rw [h 1 (by omega), h 2 (by omega), h 3 (by omega), h 4 (by omega), h 5 (by omega), h 6 (by omega), h 7 (by omega), h 8 (by omega), h 9 (by omega), h 10 (by omega)]
theorem TI_keep {σ σ' : Sig} (h : ∀ a, a ≤ 10 → σ' a = σ a) (hT : TI σ) : TI σ' := by
  unfold TI at hT ⊢
  rw [h 1 (by omega), h 2 (by omega), h 3 (by omega), h 4 (by omega), h 5 (by omega), h 6 (by omega), h 7 (by omega), h 8 (by omega), h 9 (by omega), h 10 (by omega)]
  exact hT
def thN (T : Sig) : Nat := (T 1 3).toNat
def slN (T : Sig) : Nat := (T 1 8).toNat
def plc (T : Sig) (t : Nat) (m : Int) : Int := whereF (T 6 t) (T 3 t) (T 5 t) m
theorem plc_in {T : Sig} (h : TI T) {t : Nat} {m : Int} (hm : 0 ≤ m ∧ m ≤ 23) : 0 ≤ plc T t m ∧ plc T t m ≤ 35 := by
  have := h.2.2.2.2 t
  exact whereF_in (by omega) (by omega) hm
def yF (c w : Int) (f : Nat) : Int := if w = 0 then c / 6 - f else if w = 2 then c / 6 + f else c / 6
def xF (c w : Int) (f : Nat) : Int := if w = 1 then c % 6 + f else if w = 3 then c % 6 - f else c % 6
def cellF (c w : Int) (f : Nat) : Int := if 0 ≤ yF c w f ∧ yF c w f < 6 ∧ 0 ≤ xF c w f ∧ xF c w f < 6 then 6 * yF c w f + xF c w f else -1
def tallF (H : Nat → Int) (c w : Int) : Nat → Int
  | 0 => -1
  | f + 1 => if cellF c w (f + 1) = -1 then tallF H c w f else max (tallF H c w f) (H (cellF c w (f + 1)).toNat)
def viewF (H : Nat → Int) (c w : Int) (f : Nat) : Int := if cellF c w f ≠ -1 ∧ (tallF H c w (f - 1) ≤ H c.toNat ∨ tallF H c w (f - 1) < H (cellF c w f).toNat) then cellF c w f else -1
theorem cellF_in {c w : Int} {f : Nat} : cellF c w f = -1 ∨ (0 ≤ cellF c w f ∧ cellF c w f ≤ 35) := by
  unfold cellF
  split <;> omega
theorem cellF_ne {c w : Int} {f : Nat} (h : cellF c w f ≠ -1) : 0 ≤ yF c w f ∧ yF c w f < 6 ∧ 0 ≤ xF c w f ∧ xF c w f < 6 ∧ cellF c w f = 6 * yF c w f + xF c w f := by
  unfold cellF at h ⊢
  split at h
  · rename_i hc
    rw [if_pos hc]
    exact ⟨hc.1, hc.2.1, hc.2.2.1, hc.2.2.2, rfl⟩
  · exact absurd rfl h
theorem cellF_inj {c w : Int} {f g : Nat} (hw : 0 ≤ w ∧ w ≤ 3) (h1 : cellF c w f ≠ -1) (h2 : cellF c w g = cellF c w f) : f = g := by
  obtain ⟨a1, a2, a3, a4, a5⟩ := cellF_ne h1
  obtain ⟨b1, b2, b3, b4, b5⟩ := cellF_ne (show cellF c w g ≠ -1 by rw [h2]; exact h1)
  unfold yF xF at *
  have hc : w = 0 ∨ w = 1 ∨ w = 2 ∨ w = 3 := by omega
  rcases hc with rfl | rfl | rfl | rfl <;> simp at * <;> omega
theorem viewF_in (H : Nat → Int) (c w : Int) (f : Nat) : viewF H c w f = -1 ∨ (viewF H c w f = cellF c w f ∧ cellF c w f ≠ -1) := by
  unfold viewF
  split
  · rename_i h; exact Or.inr ⟨rfl, h.1⟩
  · exact Or.inl rfl
/-- whether thing t is seen so far away by sleeper s, whose bed is in c, turned w, in the minute m -/
def isSn (X : Nat → RuT) (T : Sig) (c w m s : Int) (f t : Nat) : Bool := decide (plc T t m = viewF (T 2) c w f) && (showsF (T 6 t) (T 5 t) (T 1 1) f && decide (evL (nmF f m (T 1 1) (T 2 (plc T t m).toNat) s t) (prt 0 (X (T 1 2).toNat)) ≠ 0))
def rowS1 (X : Nat → RuT) (T : Sig) (c w m s : Int) (f k : Nat) : List (Nat × Nat) := ((List.range k).filter (isSn X T c w m s f)).map (fun t => (t, f))
def seenP (X : Nat → RuT) (T : Sig) (c w m s : Int) (k F : Nat) : List (Nat × Nat) := (List.range F).flatMap (fun f => rowS1 X T c w m s (f + 1) k)
def seenG (X : Nat → RuT) (T : Sig) (c w m s : Int) : List (Nat × Nat) := seenP X T c w m s (thN T) 5
section SEEN
variable {X : Nat → RuT} {T : Sig} {c w m s : Int}
theorem rowS1_s (f k : Nat) : rowS1 X T c w m s f (k + 1) = rowS1 X T c w m s f k ++ (if isSn X T c w m s f k then [(k, f)] else []) := by
  unfold rowS1
  rw [List.range_succ, List.filter_append, List.map_append]
  congr 1
  cases h : isSn X T c w m s f k <;> simp [List.filter_cons, h]
theorem seenP_s (k F : Nat) : seenP X T c w m s k (F + 1) = seenP X T c w m s k F ++ rowS1 X T c w m s (F + 1) k := by
  unfold seenP
  rw [List.range_succ, List.flatMap_append]
  simp
theorem rowS1_len (f : Nat) : ∀ k j, (rowS1 X T c w m s f k).length ≤ (rowS1 X T c w m s f (k + j)).length
  | k, 0 => Nat.le_refl _
  | k, j + 1 => by
    rw [← Nat.add_assoc, rowS1_s, List.length_append]
    have := rowS1_len f k j
    omega
theorem seenP_len (k : Nat) : ∀ F j, (seenP X T c w m s k F).length ≤ (seenP X T c w m s k (F + j)).length
  | F, 0 => Nat.le_refl _
  | F, j + 1 => by
    rw [← Nat.add_assoc, seenP_s, List.length_append]
    have := seenP_len k F j
    omega
theorem isSn_uni (hT : TI T) (hw : 0 ≤ w ∧ w ≤ 3) (hm : 0 ≤ m ∧ m ≤ 23) {f g t : Nat} (h1 : isSn X T c w m s f t = true) (h2 : isSn X T c w m s g t = true) : f = g := by
  unfold isSn at h1 h2
  simp only [Bool.and_eq_true, decide_eq_true_eq] at h1 h2
  have hp := plc_in (t := t) hT hm
  have e1 := h1.1
  have e2 := h2.1
  rcases viewF_in (T 2) c w f with a | ⟨a, a'⟩
  · omega
  · rcases viewF_in (T 2) c w g with b | ⟨b, b'⟩
    · omega
    · exact cellF_inj hw a' (by omega)
theorem seenP_k (k F : Nat) : (seenP X T c w m s (k + 1) F).length = (seenP X T c w m s k F).length + ((List.range F).filter (fun f => isSn X T c w m s (f + 1) k)).length := by
  induction F with
  | zero => rfl
  | succ F ih =>
    rw [seenP_s, seenP_s, List.length_append, List.length_append, ih, rowS1_s, List.length_append, List.range_succ, List.filter_append, List.length_append]
    cases h : isSn X T c w m s (F + 1) k <;> simp [List.filter_cons, h] <;> omega
theorem one_f {p : Nat → Bool} (hu : ∀ f g, p f = true → p g = true → f = g) : ∀ F, ((List.range F).filter p).length ≤ 1 ∧ (((List.range F).filter p).length = 1 → ∃ f, f < F ∧ p f = true)
  | 0 => ⟨Nat.zero_le _, fun h => by simp at h⟩
  | F + 1 => by
    obtain ⟨h1, h2⟩ := one_f hu F
    rw [List.range_succ, List.filter_append, List.length_append]
    cases hp : p F with
    | false =>
      rw [show ([F].filter p).length = 0 by simp [List.filter_cons, hp]]
      refine ⟨by omega, fun h => ?_⟩
      obtain ⟨f, hf, hpf⟩ := h2 (by omega)
      exact ⟨f, by omega, hpf⟩
    | true =>
      have h0 : ((List.range F).filter p).length = 0 := by
        apply Nat.eq_zero_of_not_pos
        intro hpos
        obtain ⟨f, hf, hpf⟩ := h2 (by omega)
        have := hu f F hpf hp
        omega
      rw [show ([F].filter p).length = 1 by simp [List.filter_cons, hp], h0]
      exact ⟨by omega, fun _ => ⟨F, by omega, hp⟩⟩
theorem seenP_le (hT : TI T) (hw : 0 ≤ w ∧ w ≤ 3) (hm : 0 ≤ m ∧ m ≤ 23) (F : Nat) : ∀ k, (seenP X T c w m s k F).length ≤ k
  | 0 => by
    have : ∀ F, seenP X T c w m s 0 F = [] := by
      intro F
      induction F with
      | zero => rfl
      | succ F ih => rw [seenP_s, ih]; rfl
    rw [this]; exact Nat.le_refl _
  | k + 1 => by
    have h := seenP_le hT hw hm F k
    rw [seenP_k]
    have := (one_f (p := fun f => isSn X T c w m s (f + 1) k) (fun f g h1 h2 => by have := isSn_uni hT hw hm h1 h2; omega) F).1
    omega
theorem seenG_le (hT : TI T) (hw : 0 ≤ w ∧ w ≤ 3) (hm : 0 ≤ m ∧ m ≤ 23) : (seenG X T c w m s).length ≤ 6 := by
  have := seenP_le (X := X) (c := c) (s := s) hT hw hm 5 (thN T)
  have h3 := hT.2.2.1
  unfold thN at this
  unfold seenG thN
  omega
/-- there is room for one more -/
theorem seen_room (hT : TI T) (hw : 0 ≤ w ∧ w ≤ 3) (hm : 0 ≤ m ∧ m ≤ 23) {F k : Nat} (hF : F < 5) (hk : k < thN T) (h : isSn X T c w m s (F + 1) k = true) : (seenP X T c w m s (thN T) F ++ rowS1 X T c w m s (F + 1) k).length < 6 := by
  have h1 := seenG_le (X := X) (c := c) (s := s) hT hw hm
  unfold seenG at h1
  have h2 := seenP_len (X := X) (T := T) (c := c) (w := w) (m := m) (s := s) (thN T) (F + 1) (4 - F)
  rw [show F + 1 + (4 - F) = 5 by omega, seenP_s, List.length_append] at h2
  have h3 := rowS1_len (X := X) (T := T) (c := c) (w := w) (m := m) (s := s) (F + 1) (k + 1) (thN T - (k + 1))
  rw [show k + 1 + (thN T - (k + 1)) = thN T by omega, rowS1_s, h, if_pos rfl, List.length_append] at h3
  simp only [List.length_cons, List.length_nil] at h3
  rw [List.length_append]
  omega
theorem rowS1_mem {f k : Nat} {q : Nat × Nat} (h : q ∈ rowS1 X T c w m s f k) : q.1 < k ∧ q.2 = f ∧ isSn X T c w m s f q.1 = true := by
  unfold rowS1 at h
  obtain ⟨t, ht, rfl⟩ := List.mem_map.mp h
  obtain ⟨h1, h2⟩ := List.mem_filter.mp ht
  exact ⟨List.mem_range.mp h1, rfl, h2⟩
theorem seenP_mem {k : Nat} {q : Nat × Nat} : ∀ F, q ∈ seenP X T c w m s k F → q.1 < k ∧ 1 ≤ q.2 ∧ q.2 ≤ F ∧ isSn X T c w m s q.2 q.1 = true
  | 0, h => by simp [seenP] at h
  | F + 1, h => by
    rw [seenP_s] at h
    rcases List.mem_append.mp h with h | h
    · have := seenP_mem F h
      exact ⟨this.1, this.2.1, by omega, this.2.2.2⟩
    · obtain ⟨h1, h2, h3⟩ := rowS1_mem h
      exact ⟨h1, by omega, by omega, by rw [h2]; exact h3⟩
theorem seenG_mem {q : Nat × Nat} (h : q ∈ seenG X T c w m s) : q.1 < thN T ∧ 1 ≤ q.2 ∧ q.2 ≤ 5 := by
  have := seenP_mem 5 h
  exact ⟨this.1, this.2.1, this.2.2.1⟩
end SEEN
def clampF (v a b : Int) : Int := if v < a then a else if b < v then b else v
def wrth (X : Nat → RuT) (T : Sig) (m s : Int) (q : Nat × Nat) : Int := worthF (T 6 q.1) (T 5 q.1) (T 4 q.1 + clampF (evL (nmF q.2 m (T 1 1) (T 2 (plc T q.1 m).toNat) s q.1) (prt 1 (X (T 1 2).toNat))) (-99) 99) q.2
def slpG (X : Nat → RuT) (T : Sig) (m s : Int) : Int := clampF (evL (nmF 0 m 0 0 s 0) (prt 2 (X (T 1 2).toNat))) 0 99
theorem clampF_in {v a b : Int} (h : a ≤ b) : a ≤ clampF v a b ∧ clampF v a b ≤ b := by
  unfold clampF
  (repeat' split) <;> omega
/-- who wakes ahead of whom -/
abbrev bef (T : Sig) (a b : Nat) : Prop := T 9 a < T 9 b ∨ (T 9 a = T 9 b ∧ (T 10 b < T 10 a ∨ (T 10 a = T 10 b ∧ a < b)))
def insR (T : Sig) (s : Nat) : List Nat → List Nat
  | [] => [s]
  | e :: q => if bef T s e then e :: insR T s q else s :: e :: q
def ordR (T : Sig) : Nat → List Nat
  | 0 => []
  | n + 1 => insR T n (ordR T n)
def ordL (T : Sig) : List Nat := (ordR T (slN T)).reverse
theorem insR_len (T : Sig) (s : Nat) : ∀ q, (insR T s q).length = q.length + 1
  | [] => rfl
  | e :: q => by
    simp only [insR]
    split
    · simp [insR_len T s q]
    · simp
theorem insR_mem (T : Sig) (s x : Nat) : ∀ q, x ∈ insR T s q ↔ x = s ∨ x ∈ q
  | [] => by simp [insR]
  | e :: q => by
    simp only [insR]
    split
    · rw [List.mem_cons, insR_mem T s x q, List.mem_cons]
      constructor
      · rintro (h | h | h)
        · exact Or.inr (Or.inl h)
        · exact Or.inl h
        · exact Or.inr (Or.inr h)
      · rintro (h | h | h)
        · exact Or.inr (Or.inl h)
        · exact Or.inl h
        · exact Or.inr (Or.inr h)
    · rw [List.mem_cons]
theorem insR_pw (T : Sig) (s : Nat) : ∀ q : List Nat, (∀ x, x ∈ q → x ≠ s) → q.Pairwise (fun a b => bef T b a) → (insR T s q).Pairwise (fun a b => bef T b a)
  | [], _, _ => by simp [insR]
  | e :: q, hne, h => by
    obtain ⟨h1, h2⟩ := List.pairwise_cons.mp h
    simp only [insR]
    split
    · rename_i hs
      refine List.pairwise_cons.mpr ⟨fun x hx => ?_, insR_pw T s q (fun x hx => hne x (List.mem_cons_of_mem _ hx)) h2⟩
      rcases (insR_mem T s x q).mp hx with rfl | hx
      · exact hs
      · exact h1 x hx
    · rename_i hs
      have hes : bef T e s := by
        have := hne e List.mem_cons_self
        unfold bef at hs ⊢
        omega
      refine List.pairwise_cons.mpr ⟨fun x hx => ?_, h⟩
      rcases List.mem_cons.mp hx with rfl | hx
      · exact hes
      · have := h1 x hx
        unfold bef at this hes ⊢
        omega
theorem ordR_len (T : Sig) : ∀ n, (ordR T n).length = n
  | 0 => rfl
  | n + 1 => by rw [ordR, insR_len, ordR_len T n]
theorem ordR_mem (T : Sig) (x : Nat) : ∀ n, x ∈ ordR T n ↔ x < n
  | 0 => by simp [ordR]
  | n + 1 => by rw [ordR, insR_mem, ordR_mem T x n]; omega
theorem ordR_pw (T : Sig) : ∀ n, (ordR T n).Pairwise (fun a b => bef T b a)
  | 0 => List.Pairwise.nil
  | n + 1 => insR_pw T n _ (fun x hx => by have := (ordR_mem T x n).mp hx; omega) (ordR_pw T n)
theorem ordL_len (T : Sig) : (ordL T).length = slN T := by unfold ordL; rw [List.length_reverse, ordR_len]
theorem ordL_mem (T : Sig) (x : Nat) : x ∈ ordL T ↔ x < slN T := by unfold ordL; rw [List.mem_reverse, ordR_mem]
theorem ordL_pw (T : Sig) : (ordL T).Pairwise (bef T) := by unfold ordL; rw [List.pairwise_reverse]; exact ordR_pw T _
/-- the sleeper that is the i-th to wake -/
def ordN (T : Sig) (i : Nat) : Nat := (ordL T).getD i 0
theorem ordN_at {T : Sig} {i : Nat} (h : i < slN T) : (ordL T)[i]? = some (ordN T i) := by
  unfold ordN
  rw [List.getD_eq_getElem?_getD, List.getElem?_eq_getElem (by rw [ordL_len]; exact h)]
  rfl
theorem ordN_lt {T : Sig} {i : Nat} (h : i < slN T) : ordN T i < slN T := (ordL_mem T _).mp (List.mem_of_getElem? (ordN_at h))
theorem ordN_bef {T : Sig} {i j : Nat} (h : i < j) (hj : j < slN T) : bef T (ordN T i) (ordN T j) := by
  have h1 := ordN_at (T := T) (show i < slN T by omega)
  have h2 := ordN_at hj
  obtain ⟨a1, a2⟩ := List.getElem?_eq_some_iff.mp h1
  obtain ⟨b1, b2⟩ := List.getElem?_eq_some_iff.mp h2
  rw [← a2, ← b2]
  exact List.pairwise_iff_getElem.mp (ordL_pw T) i j a1 b1 h
theorem bef_irr {T : Sig} {a : Nat} : ¬ bef T a a := by unfold bef; omega
theorem bef_asym {T : Sig} {a b : Nat} (h : bef T a b) (h2 : bef T b a) : False := by unfold bef at h h2; omega
theorem ordN_inj {T : Sig} {i j : Nat} (hi : i < slN T) (hj : j < slN T) (h : ordN T i = ordN T j) : i = j := by
  rcases Nat.lt_trichotomy i j with h1 | h1 | h1
  · have := ordN_bef h1 hj
    rw [h] at this
    exact absurd this bef_irr
  · exact h1
  · have := ordN_bef h1 hi
    rw [h] at this
    exact absurd this bef_irr
theorem ordN_sur {T : Sig} {s : Nat} (h : s < slN T) : ∃ i, i < slN T ∧ ordN T i = s := by
  obtain ⟨i, hi⟩ := List.getElem?_of_mem ((ordL_mem T s).mpr h)
  have hl := (List.getElem?_eq_some_iff.mp hi).1
  rw [ordL_len] at hl
  refine ⟨i, hl, ?_⟩
  have := ordN_at hl
  rw [hi] at this
  exact (Option.some.inj this).symm
/-! who has what -/
def frst (L : List (Nat × Nat)) (g : Nat) : Option (Nat × Nat) := L.find? (fun q => !g.testBit q.1)
def gaft (g : Nat) : Option (Nat × Nat) → Nat
  | none => g
  | some q => g ||| 2 ^ q.1
/-- what is gone when i have had their choice -/
def gon (T : Sig) (ls : Nat → List (Nat × Nat)) : Nat → Nat
  | 0 => 0
  | i + 1 => gaft (gon T ls i) (frst (ls (ordN T i)) (gon T ls i))
def hadO (T : Sig) (ls : Nat → List (Nat × Nat)) (s : Nat) : Option (Nat × Nat) := frst (ls s) (gon T ls ((ordL T).idxOf s))
theorem hadO_at {T : Sig} {ls : Nat → List (Nat × Nat)} {i : Nat} (h : i < slN T) : hadO T ls (ordN T i) = frst (ls (ordN T i)) (gon T ls i) := by
  have hm : ordN T i ∈ ordL T := (ordL_mem T _).mpr (ordN_lt h)
  have hlt := List.idxOf_lt_length_of_mem hm
  have hlt2 := hlt
  rw [ordL_len] at hlt2
  have he : ordN T ((ordL T).idxOf (ordN T i)) = ordN T i := by
    have h1 := ordN_at hlt2
    rw [List.getElem?_eq_getElem hlt, List.getElem_idxOf hlt] at h1
    exact (Option.some.inj h1).symm
  unfold hadO
  rw [ordN_inj hlt2 h he]
def seenT (X : Nat → RuT) (T : Sig) (s : Nat) : List (Nat × Nat) := seenG X T (T 7 s) (T 8 s) (T 9 s) s
def hadT (X : Nat → RuT) (T : Sig) (s : Nat) : Option (Nat × Nat) := hadO T (seenT X T) s
def hasI : Option (Nat × Nat) → Int
  | none => -1
  | some q => q.1
def worO (X : Nat → RuT) (T : Sig) (m s : Int) : Option (Nat × Nat) → Int
  | none => 0
  | some q => wrth X T m s q
def leftT (X : Nat → RuT) (T : Sig) (s : Nat) : Int := worO X T (T 9 s) s (hadT X T s) - slpG X T (T 9 s) s
def sumN (f : Nat → Int) : Nat → Int
  | 0 => 0
  | n + 1 => sumN f n + f n
def allT (X : Nat → RuT) (T : Sig) : Int := sumN (leftT X T) (slN T)
theorem frst_mem {L : List (Nat × Nat)} {g : Nat} {q : Nat × Nat} (h : frst L g = some q) : q ∈ L ∧ g.testBit q.1 = false := by
  unfold frst at h
  exact ⟨List.mem_of_find?_eq_some h, by have := List.find?_some h; simpa using this⟩
theorem hadO_mem {T : Sig} {ls : Nat → List (Nat × Nat)} {s : Nat} {q : Nat × Nat} (h : hadO T ls s = some q) : q ∈ ls s := (frst_mem h).1
theorem worthF_in {k n v far : Int} (hn : 0 ≤ n ∧ n ≤ 9) (hv : -99 ≤ v ∧ v ≤ 198) (hf : 0 ≤ far ∧ far ≤ 9) : 0 ≤ worthF k n v far ∧ worthF k n v far ≤ 1000 := by
  have ht : -99 ≤ v.tdiv 2 ∧ v.tdiv 2 ≤ 198 := by
    rcases Int.le_total 0 v with h0 | h0
    · rw [Int.tdiv_eq_ediv_of_nonneg h0]; omega
    · have e : v.tdiv 2 = -((-v) / 2) := by rw [← Int.tdiv_eq_ediv_of_nonneg (show 0 ≤ -v by omega), Int.neg_tdiv, Int.neg_neg]
      rw [e]; omega
  unfold worthF worthK
  (repeat' split) <;> omega
theorem wrth_in {X : Nat → RuT} {T : Sig} {m s : Int} {q : Nat × Nat} (hT : TI T) (hq : q.2 ≤ 9) : 0 ≤ wrth X T m s q ∧ wrth X T m s q ≤ 1000 := by
  have h := hT.2.2.2.2 q.1
  have hc := clampF_in (v := evL (nmF q.2 m (T 1 1) (T 2 (plc T q.1 m).toNat) s q.1) (prt 1 (X (T 1 2).toNat))) (show (-99 : Int) ≤ 99 by decide)
  unfold wrth
  exact worthF_in (by omega) (by omega) (by omega)
theorem slpG_in (X : Nat → RuT) (T : Sig) (m s : Int) : 0 ≤ slpG X T m s ∧ slpG X T m s ≤ 99 := clampF_in (by decide)
theorem worO_in {X : Nat → RuT} {T : Sig} {m : Int} {s : Nat} (hT : TI T) : 0 ≤ worO X T m s (hadT X T s) ∧ worO X T m s (hadT X T s) ≤ 1000 := by
  cases h : hadT X T s with
  | none => exact ⟨Int.le_refl 0, show (0 : Int) ≤ 1000 by decide⟩
  | some q =>
    have hm : q ∈ seenG X T (T 7 s) (T 8 s) (T 9 s) s := hadO_mem (T := T) (ls := seenT X T) (s := s) h
    have := seenG_mem hm
    exact wrth_in hT (by omega)
theorem leftT_in {X : Nat → RuT} {T : Sig} {s : Nat} (hT : TI T) : -99 ≤ leftT X T s ∧ leftT X T s ≤ 1000 := by
  have h1 := worO_in (X := X) (m := T 9 s) (s := s) hT
  have h2 := slpG_in X T (T 9 s) s
  unfold leftT
  omega
theorem sumN_in {f : Nat → Int} {a b : Int} (h : ∀ i, a ≤ f i ∧ f i ≤ b) : ∀ n : Nat, n * a ≤ sumN f n ∧ sumN f n ≤ n * b
  | 0 => by simp [sumN]
  | n + 1 => by
    have h1 := sumN_in h n
    have h2 := h n
    simp only [sumN]
    have e1 : ((n + 1 : Nat) : Int) * a = n * a + a := by rw [Int.natCast_add, Int.add_mul]; simp
    have e2 : ((n + 1 : Nat) : Int) * b = n * b + b := by rw [Int.natCast_add, Int.add_mul]; simp
    omega
