/-! how all beds should stand -/
def suml (f : Nat → Int) : List Nat → Int
  | [] => 0
  | x :: q => f x + suml f q
theorem suml_app (f : Nat → Int) : ∀ a b : List Nat, suml f (a ++ b) = suml f a + suml f b
  | [], b => by simp [suml]
  | x :: a, b => by simp only [List.cons_append, suml]; rw [suml_app f a b]; omega
theorem suml_rev (f : Nat → Int) : ∀ a : List Nat, suml f a.reverse = suml f a
  | [] => rfl
  | x :: a => by rw [List.reverse_cons, suml_app, suml_rev f a]; simp only [suml]; omega
theorem suml_ins (f : Nat → Int) (T : Sig) (s : Nat) : ∀ q : List Nat, suml f (insR T s q) = f s + suml f q
  | [] => rfl
  | e :: q => by
    simp only [insR]
    split
    · simp only [suml]; rw [suml_ins f T s q]; omega
    · rfl
theorem suml_ord (f : Nat → Int) (T : Sig) : ∀ n, suml f (ordR T n) = sumN f n
  | 0 => rfl
  | n + 1 => by rw [ordR, suml_ins, suml_ord f T n]; simp only [sumN]; omega
theorem suml_at (f : Nat → Int) : ∀ L : List Nat, sumN (fun j => f (L.getD j 0)) L.length = suml f L := by
  intro L
  have key : ∀ n, n ≤ L.length → sumN (fun j => f (L.getD j 0)) n = suml f (L.take n) := by
    intro n
    induction n with
    | zero => intro _; simp [sumN, suml]
    | succ n ih =>
      intro hn
      simp only [sumN]
      rw [ih (by omega), List.take_succ, suml_app, List.getD_eq_getElem?_getD, List.getElem?_eq_getElem (show n < L.length by omega)]
      simp [suml]
  rw [key _ (Nat.le_refl _), List.take_length]
/-- a sum over the order of waking is one over the sleepers -/
theorem sumN_ord (f : Nat → Int) (T : Sig) : sumN (fun j => f (ordN T j)) (slN T) = sumN f (slN T) := by
  have h := suml_at f (ordL T)
  rw [ordL_len] at h
  show sumN (fun j => f ((ordL T).getD j 0)) (slN T) = _
  rw [h]
  unfold ordL
  rw [suml_rev, suml_ord]
theorem sumN_congr {f g : Nat → Int} : ∀ n, (∀ i, i < n → f i = g i) → sumN f n = sumN g n
  | 0, _ => rfl
  | n + 1, h => by simp only [sumN]; rw [sumN_congr n (fun i hi => h i (by omega)), h n (by omega)]
theorem sumN_sub (f g : Nat → Int) : ∀ n, sumN (fun s => f s - g s) n = sumN f n - sumN g n
  | 0 => rfl
  | n + 1 => by simp only [sumN]; rw [sumN_sub f g n]; omega
/-- the town with all beds turned as W says -/
def TW (T : Sig) (W : Nat → Nat) : Sig := fun a b => if a = 8 ∧ b < slN T then (W b : Int) else T a b
theorem TW_row {T : Sig} {W : Nat → Nat} {a : Nat} (h : a ≠ 8) : TW T W a = T a := funext fun b => if_neg (fun h2 => h h2.1)
theorem TW_8 {T : Sig} {W : Nat → Nat} {b : Nat} (h : b < slN T) : TW T W 8 b = W b := if_pos ⟨rfl, h⟩
theorem TW_sl {T : Sig} {W : Nat → Nat} : slN (TW T W) = slN T := by unfold slN; rw [TW_row (by omega)]
theorem ordR_cong {T T' : Sig} (h9 : T' 9 = T 9) (h10 : T' 10 = T 10) : ∀ n, ordR T' n = ordR T n := by
  have hb : ∀ a b, bef T' a b ↔ bef T a b := fun a b => by unfold bef; rw [h9, h10]
  have hi : ∀ s q, insR T' s q = insR T s q := by
    intro s q
    induction q with
    | nil => rfl
    | cons e q ih =>
      simp only [insR]
      by_cases hbe : bef T s e
      · rw [if_pos hbe, if_pos ((hb s e).mpr hbe), ih]
      · rw [if_neg hbe, if_neg (fun h => hbe ((hb s e).mp h))]
  intro n
  induction n with
  | zero => rfl
  | succ n ih => rw [ordR, ordR, ih, hi]
theorem ordL_cong {T T' : Sig} (h9 : T' 9 = T 9) (h10 : T' 10 = T 10) (h1 : slN T' = slN T) : ordL T' = ordL T := by unfold ordL; rw [h1, ordR_cong h9 h10]
theorem ordN_cong {T T' : Sig} (h : ordL T' = ordL T) : ordN T' = ordN T := by funext i; unfold ordN; rw [h]
theorem gon_cong {T T' : Sig} {ls ls' : Nat → List (Nat × Nat)} (ho : ordN T' = ordN T) : ∀ i, (∀ j, j < i → ls' (ordN T j) = ls (ordN T j)) → gon T' ls' i = gon T ls i
  | 0, _ => rfl
  | i + 1, h => by
    simp only [gon]
    rw [gon_cong ho i (fun j hj => h j (by omega)), ho, h i (by omega)]
/-- what is seen, all beds turned as W says -/
def lsW (X : Nat → RuT) (T : Sig) (W : Nat → Nat) (s : Nat) : List (Nat × Nat) := seenG X T (T 7 s) (W s : Nat) (T 9 s) s
theorem seenT_W {X : Nat → RuT} {T : Sig} {W : Nat → Nat} {s : Nat} (h : s < slN T) : seenT X (TW T W) s = lsW X T W s := by
  unfold seenT lsW
  rw [seenG_cong (T := T) (T' := TW T W) (fun a ha => TW_row (by omega)), TW_row (show (7 : Nat) ≠ 8 by omega), TW_row (show (9 : Nat) ≠ 8 by omega), TW_8 h]
theorem hadT_W {X : Nat → RuT} {T : Sig} {W : Nat → Nat} {s : Nat} (h : s < slN T) : hadT X (TW T W) s = hadO T (lsW X T W) s := by
  have ho : ordL (TW T W) = ordL T := ordL_cong (TW_row (by omega)) (TW_row (by omega)) TW_sl
  unfold hadT hadO
  rw [ho, seenT_W h]
  congr 1
  have hi := List.idxOf_lt_length_of_mem ((ordL_mem T s).mpr h)
  rw [ordL_len] at hi
  exact gon_cong (ordN_cong ho) _ (fun j hj => seenT_W (ordN_lt (by omega)))
/-- what the things are worth that they have, all beds turned as W says -/
def wsW (X : Nat → RuT) (T : Sig) (W : Nat → Nat) : Int := sumN (fun s => worO X T (T 9 s) s (hadO T (lsW X T W) s)) (slN T)
def slpS (X : Nat → RuT) (T : Sig) : Int := sumN (fun s => slpG X T (T 9 s) s) (slN T)
theorem worO_cong {X : Nat → RuT} {T T' : Sig} (h : ∀ a, a ≤ 6 → T' a = T a) : worO X T' = worO X T := by
  funext m s q
  cases q with
  | none => rfl
  | some q => show wrth X T' m s q = _; rw [wrth_cong h]; rfl
theorem allT_W {X : Nat → RuT} {T : Sig} {W : Nat → Nat} : allT X (TW T W) = wsW X T W - slpS X T := by
  unfold allT wsW slpS
  rw [TW_sl, ← sumN_sub]
  refine sumN_congr _ (fun s hs => ?_)
  unfold leftT
  rw [hadT_W hs, worO_cong (T := T) (T' := TW T W) (fun a ha => TW_row (by omega)), TW_row (show (9 : Nat) ≠ 8 by omega), slpG_12 (X := X) (T := T) (T' := TW T W) (by rw [TW_row (by omega)])]
/-- the digits, sleeper 0's way the highest -/
def dgW (W : Nat → Nat) : Nat → Int
  | 0 => 0
  | s + 1 => 10 * dgW W s + W s
def pw10 (n s : Nat) : Int := ((10 ^ (n - 1 - s) : Nat) : Int)
theorem dgW_sum (W : Nat → Nat) : ∀ n, dgW W n = sumN (fun s => (W s : Int) * pw10 n s) n
  | 0 => rfl
  | n + 1 => by
    simp only [dgW, sumN]
    rw [dgW_sum W n]
    have e : sumN (fun s => (W s : Int) * pw10 (n + 1) s) n = 10 * sumN (fun s => (W s : Int) * pw10 n s) n := by
      have key : ∀ k, k ≤ n → sumN (fun s => (W s : Int) * pw10 (n + 1) s) k = 10 * sumN (fun s => (W s : Int) * pw10 n s) k := by
        intro k
        induction k with
        | zero => intro _; rfl
        | succ k ih =>
          intro hk
          simp only [sumN]
          rw [ih (by omega)]
          have : pw10 (n + 1) k = 10 * pw10 n k := by
            unfold pw10
            rw [show n + 1 - 1 - k = (n - 1 - k) + 1 by omega, Nat.pow_succ]
            omega
          rw [this, Int.mul_add, Int.mul_left_comm]
      exact key n (Nat.le_refl _)
    rw [e]
    have : pw10 (n + 1) n = 1 := by unfold pw10; rw [show n + 1 - 1 - n = 0 by omega]; rfl
    rw [this]
    omega
def okW (W : Nat → Nat) : Prop := ∀ s, W s < 4
/-- BEDS: all left, the digits -/
def Beds (X : Nat → RuT) (T : Sig) (z d : Int) : Prop := ∃ W, okW W ∧ z = allT X (TW T W) ∧ d = dgW W (slN T) ∧ ∀ W', okW W' → allT X (TW T W') < z ∨ (allT X (TW T W') = z ∧ d ≤ dgW W' (slN T))
theorem Beds_uni {X : Nat → RuT} {T : Sig} {z d z' d' : Int} (h : Beds X T z d) (h' : Beds X T z' d') : z = z' ∧ d = d' := by
  obtain ⟨W, a1, rfl, rfl, a4⟩ := h
  obtain ⟨V, b1, rfl, rfl, b4⟩ := h'
  have c1 := a4 V b1
  have c2 := b4 W a1
  omega
/-- the class's way to it: by the order of waking -/
def woP (X : Nat → RuT) (T : Sig) (W : Nat → Nat) (j : Nat) : Int := worO X T (T 9 (ordN T j)) (ordN T j : Nat) (frst (lsW X T W (ordN T j)) (gon T (lsW X T W) j))
def wsP (X : Nat → RuT) (T : Sig) (W : Nat → Nat) (i : Nat) : Int := sumN (woP X T W) i
def dgP (T : Sig) (W : Nat → Nat) (i : Nat) : Int := sumN (fun j => (W (ordN T j) : Int) * pw10 (slN T) (ordN T j)) i
theorem wsP_n {X : Nat → RuT} {T : Sig} {W : Nat → Nat} : wsP X T W (slN T) = wsW X T W := by
  unfold wsP wsW
  rw [← sumN_ord (fun s => worO X T (T 9 s) s (hadO T (lsW X T W) s)) T]
  refine sumN_congr _ (fun j hj => ?_)
  unfold woP
  rw [hadO_at hj]
theorem dgP_n {T : Sig} {W : Nat → Nat} : dgP T W (slN T) = dgW W (slN T) := by
  unfold dgP
  rw [dgW_sum, ← sumN_ord (fun s => (W s : Int) * pw10 (slN T) s) T]
/-- W and V turn alike the beds of those that are the first i to wake -/
def agr (T : Sig) (W V : Nat → Nat) (i : Nat) : Prop := ∀ j, j < i → V (ordN T j) = W (ordN T j)
theorem lsW_agr {X : Nat → RuT} {T : Sig} {W V : Nat → Nat} {s : Nat} (h : V s = W s) : lsW X T V s = lsW X T W s := by unfold lsW; rw [h]
theorem gon_agr {X : Nat → RuT} {T : Sig} {W V : Nat → Nat} {i : Nat} (h : agr T W V i) : gon T (lsW X T V) i = gon T (lsW X T W) i := gon_cong rfl i (fun j hj => lsW_agr (h j hj))
theorem wsP_agr {X : Nat → RuT} {T : Sig} {W V : Nat → Nat} {i : Nat} (h : agr T W V i) : wsP X T V i = wsP X T W i := by
  refine sumN_congr _ (fun j hj => ?_)
  unfold woP
  rw [lsW_agr (h j hj), gon_agr (fun k hk => h k (by omega))]
theorem dgP_agr {T : Sig} {W V : Nat → Nat} {i : Nat} (h : agr T W V i) : dgP T V i = dgP T W i := sumN_congr _ (fun j hj => by rw [h j hj])
theorem wsW_pos {X : Nat → RuT} {T : Sig} (hT : TI T) {W : Nat → Nat} : 0 ≤ wsW X T W ∧ wsW X T W ≤ 5000 := by
  have hs : ∀ s, 0 ≤ worO X T (T 9 s) s (hadO T (lsW X T W) s) ∧ worO X T (T 9 s) s (hadO T (lsW X T W) s) ≤ 1000 := by
    intro s
    cases ho : hadO T (lsW X T W) s with
    | none => exact ⟨Int.le_refl 0, show (0 : Int) ≤ 1000 by decide⟩
    | some q =>
      have hm : q ∈ lsW X T W s := hadO_mem ho
      have := seenG_mem hm
      exact wrth_in hT (by omega)
  have h := sumN_in hs (slN T)
  have h8 := hT.2.2.2.1
  have e : slN T = (T 1 8).toNat := rfl
  unfold wsW
  omega
theorem wsP_in {X : Nat → RuT} {T : Sig} (hT : TI T) {W : Nat → Nat} {i : Nat} (hi : i ≤ 5) : 0 ≤ wsP X T W i ∧ wsP X T W i ≤ 5000 := by
  have hs : ∀ j, 0 ≤ woP X T W j ∧ woP X T W j ≤ 1000 := by
    intro j
    unfold woP
    cases ho : frst (lsW X T W (ordN T j)) (gon T (lsW X T W) j) with
    | none => exact ⟨Int.le_refl 0, show (0 : Int) ≤ 1000 by decide⟩
    | some q =>
      have hm : q ∈ lsW X T W (ordN T j) := (frst_mem ho).1
      have := seenG_mem hm
      exact wrth_in hT (by omega)
  have h := sumN_in hs i
  unfold wsP
  omega
/-! the ways as digits to the base 4 -/
def wK (n k : Nat) : Nat → Nat := fun s => k / 4 ^ (n - 1 - s) % 4
theorem wK_ok (n k : Nat) : okW (wK n k) := fun s => Nat.mod_lt _ (by decide)
theorem dgW_cong {W V : Nat → Nat} : ∀ n, (∀ s, s < n → W s = V s) → dgW W n = dgW V n
  | 0, _ => rfl
  | n + 1, h => by simp only [dgW]; rw [dgW_cong n (fun s hs => h s (by omega)), h n (by omega)]
theorem TW_cong {T : Sig} {W V : Nat → Nat} (h : ∀ s, s < slN T → W s = V s) : TW T W = TW T V := by
  funext a b
  unfold TW
  by_cases hab : a = 8 ∧ b < slN T
  · rw [if_pos hab, if_pos hab, h b hab.2]
  · rw [if_neg hab, if_neg hab]
def dK (n k : Nat) : Int := dgW (wK n k) n
theorem wK_s {n k s : Nat} (h : s < n) : wK (n + 1) k s = wK n (k / 4) s := by
  unfold wK
  rw [Nat.div_div_eq_div_mul, show 4 * 4 ^ (n - 1 - s) = 4 ^ (n + 1 - 1 - s) by rw [show n + 1 - 1 - s = (n - 1 - s) + 1 by omega, Nat.pow_succ, Nat.mul_comm]]
theorem dK_s (n k : Nat) : dK (n + 1) k = 10 * dK n (k / 4) + ((k % 4 : Nat) : Int) := by
  unfold dK
  simp only [dgW]
  rw [dgW_cong n (fun s hs => wK_s hs)]
  have : wK (n + 1) k n = k % 4 := by unfold wK; rw [show n + 1 - 1 - n = 0 by omega, Nat.pow_zero, Nat.div_one]
  rw [this]
theorem dK_lt : ∀ n j k : Nat, j < k → k < 4 ^ n → dK n j < dK n k
  | 0, j, k, h1, h2 => by rw [Nat.pow_zero] at h2; omega
  | n + 1, j, k, h1, h2 => by
    rw [dK_s, dK_s]
    rw [Nat.pow_succ] at h2
    by_cases he : j / 4 = k / 4
    · rw [he]; omega
    · have := dK_lt n (j / 4) (k / 4) (by omega) (by omega)
      omega
theorem dK_in : ∀ n k : Nat, 0 ≤ dK n k ∧ dK n k < ((10 ^ n : Nat) : Int)
  | 0, k => by show 0 ≤ (0 : Int) ∧ (0 : Int) < 1; decide
  | n + 1, k => by
    have := dK_in n (k / 4)
    rw [dK_s, Nat.pow_succ]
    omega
def nuW (W : Nat → Nat) : Nat → Nat
  | 0 => 0
  | n + 1 => 4 * nuW W n + W n
theorem nuW_lt {W : Nat → Nat} (h : okW W) : ∀ n, nuW W n < 4 ^ n
  | 0 => by show 0 < 1; decide
  | n + 1 => by
    have h1 := nuW_lt h n
    have h2 := h n
    simp only [nuW]
    rw [Nat.pow_succ]
    omega
theorem nuW_wK {W : Nat → Nat} (h : okW W) : ∀ n s, s < n → wK n (nuW W n) s = W s
  | 0, s, hs => absurd hs (by omega)
  | n + 1, s, hs => by
    have h2 := h n
    by_cases he : s = n
    · subst he
      unfold wK
      rw [show s + 1 - 1 - s = 0 by omega, Nat.pow_zero, Nat.div_one]
      simp only [nuW]
      omega
    · rw [wK_s (by omega)]
      simp only [nuW]
      rw [show (4 * nuW W n + W n) / 4 = nuW W n by omega]
      exact nuW_wK h n s (by omega)
/-- what is best of the first k codes, by what the things are worth -/
def CBk (X : Nat → RuT) (T : Sig) (k : Nat) (bl bd : Int) : Prop := (k = 0 ∧ bl = -1 ∧ bd = 0) ∨ ∃ best, best < k ∧ bl = wsW X T (wK (slN T) best) ∧ bd = dK (slN T) best ∧ ∀ j, j < k → wsW X T (wK (slN T) j) < bl ∨ (wsW X T (wK (slN T) j) = bl ∧ best ≤ j)
theorem CBk_0 {X : Nat → RuT} {T : Sig} : CBk X T 0 (-1) 0 := Or.inl ⟨rfl, rfl, rfl⟩
theorem CBk_new {X : Nat → RuT} {T : Sig} {k : Nat} {bl bd : Int} (h : CBk X T k bl bd) (hv : bl < wsW X T (wK (slN T) k)) : CBk X T (k + 1) (wsW X T (wK (slN T) k)) (dK (slN T) k) := by
  refine Or.inr ⟨k, by omega, rfl, rfl, fun j hj => ?_⟩
  by_cases hjk : j = k
  · subst hjk; exact Or.inr ⟨rfl, Nat.le_refl _⟩
  · rcases h with ⟨h1, _⟩ | ⟨best, _, _, _, h3⟩
    · omega
    · have := h3 j (by omega)
      exact Or.inl (by omega)
theorem CBk_keep {X : Nat → RuT} {T : Sig} {k : Nat} {bl bd : Int} (h : CBk X T k bl bd) (hv : ¬ bl < wsW X T (wK (slN T) k)) (hp : 0 ≤ wsW X T (wK (slN T) k)) : CBk X T (k + 1) bl bd := by
  rcases h with ⟨_, h2, _⟩ | ⟨best, h1, h2, h3, h4⟩
  · omega
  · refine Or.inr ⟨best, by omega, h2, h3, fun j hj => ?_⟩
    by_cases hjk : j = k
    · subst hjk; omega
    · exact h4 j (by omega)
theorem CBk_in {X : Nat → RuT} {T : Sig} (hT : TI T) {k : Nat} {bl bd : Int} (h : CBk X T k bl bd) : -1 ≤ bl ∧ bl ≤ 5000 := by
  rcases h with ⟨_, h2, _⟩ | ⟨best, _, h2, _, _⟩
  · omega
  · have := wsW_pos (X := X) hT (W := wK (slN T) best)
    omega
theorem wsW_cong {X : Nat → RuT} {T : Sig} {W V : Nat → Nat} (h : ∀ s, s < slN T → W s = V s) : wsW X T W = wsW X T V := by
  rw [← wsP_n, ← wsP_n]
  exact (wsP_agr (fun j hj => (h _ (ordN_lt (by exact hj))).symm)).symm
theorem CBk_end {X : Nat → RuT} {T : Sig} {bl bd : Int} (h : CBk X T (4 ^ slN T) bl bd) : Beds X T (bl - slpS X T) bd := by
  rcases h with ⟨h1, _⟩ | ⟨best, h1, rfl, rfl, h3⟩
  · have := Nat.pow_pos (n := slN T) (show 0 < 4 by decide)
    omega
  · refine ⟨wK (slN T) best, wK_ok _ _, by rw [allT_W], rfl, fun V hV => ?_⟩
    have hlt := nuW_lt hV (slN T)
    have e1 : wsW X T (wK (slN T) (nuW V (slN T))) = wsW X T V := wsW_cong (fun s hs => nuW_wK hV _ s hs)
    have e2 : dgW V (slN T) = dK (slN T) (nuW V (slN T)) := (dgW_cong _ (fun s hs => nuW_wK hV _ s hs)).symm
    have h4 := h3 _ hlt
    rw [e1] at h4
    rw [allT_W, e2]
    rcases h4 with h4 | ⟨h4, h5⟩
    · exact Or.inl (by omega)
    · refine Or.inr ⟨by omega, ?_⟩
      by_cases he : best = nuW V (slN T)
      · rw [he]; exact Int.le_refl _
      · exact Int.le_of_lt (dK_lt _ _ _ (by omega) hlt)
