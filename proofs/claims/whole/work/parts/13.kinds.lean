section ROWS
variable {K : Mk} {G : Gt} {N : Nat} {ρ : Nat → Nat} {sh : Nat → Shc} {own : String} {cc : ByteArray} {nL fr lo : Nat} {pc n : Nat} {lv : List (Option Value)} {st : List Value} {σ : Sig}
theorem x_drop_0 {z : Option Value} {t : List (Option Value)} (kk : Ex K G N ρ sh pc (none :: t) st σ) : Ex K G N ρ sh pc (z :: t) st σ := by
  obtain ⟨p, l, e, R, s, m, args, below, meth, c, cells, slots, Q⟩ := K
  intro hR H locs ls hP hS hl
  refine kk hR H locs ls hP hS ⟨by simpa only [List.length_cons] using hl.1, hl.2.1, fun q hq => hl.2.2 q ?_⟩
  obtain ⟨a, w⟩ := q
  obtain ⟨j, h1, h2⟩ := (dn_mem _ 0 a w).mp hq
  refine (dn_mem _ 0 a w).mpr ⟨j, h1, ?_⟩
  have key : ∀ (i j : Nat) (l l2 : List (Option Value)), (∀ q, q ≠ i → l2[q]? = l[q]?) → l[i]? = some none → l[j]? = some (some w) → l2[j]? = some (some w) := fun i j l l2 a b c => by
    by_cases hj : j = i
    · subst hj; rw [b] at c; cases c
    · rw [a j hj]; exact c
  exact key 0 j _ _ (fun q hq => by
    match q, hq with
    | 0, h => exact absurd rfl h
    | q + 1, _ => rfl) rfl h2
theorem x_drop_1 {a0 z : Option Value} {t : List (Option Value)} (kk : Ex K G N ρ sh pc (a0 :: none :: t) st σ) : Ex K G N ρ sh pc (a0 :: z :: t) st σ := by
  obtain ⟨p, l, e, R, s, m, args, below, meth, c, cells, slots, Q⟩ := K
  intro hR H locs ls hP hS hl
  refine kk hR H locs ls hP hS ⟨by simpa only [List.length_cons] using hl.1, hl.2.1, fun q hq => hl.2.2 q ?_⟩
  obtain ⟨a, w⟩ := q
  obtain ⟨j, h1, h2⟩ := (dn_mem _ 0 a w).mp hq
  refine (dn_mem _ 0 a w).mpr ⟨j, h1, ?_⟩
  have key : ∀ (i j : Nat) (l l2 : List (Option Value)), (∀ q, q ≠ i → l2[q]? = l[q]?) → l[i]? = some none → l[j]? = some (some w) → l2[j]? = some (some w) := fun i j l l2 a b c => by
    by_cases hj : j = i
    · subst hj; rw [b] at c; cases c
    · rw [a j hj]; exact c
  exact key 1 j _ _ (fun q hq => by
    match q, hq with
    | 0, h => rfl
    | 1, h => exact absurd rfl h
    | q + 2, _ => rfl) rfl h2
theorem x_drop_2 {a0 a1 z : Option Value} {t : List (Option Value)} (kk : Ex K G N ρ sh pc (a0 :: a1 :: none :: t) st σ) : Ex K G N ρ sh pc (a0 :: a1 :: z :: t) st σ := by
  obtain ⟨p, l, e, R, s, m, args, below, meth, c, cells, slots, Q⟩ := K
  intro hR H locs ls hP hS hl
  refine kk hR H locs ls hP hS ⟨by simpa only [List.length_cons] using hl.1, hl.2.1, fun q hq => hl.2.2 q ?_⟩
  obtain ⟨a, w⟩ := q
  obtain ⟨j, h1, h2⟩ := (dn_mem _ 0 a w).mp hq
  refine (dn_mem _ 0 a w).mpr ⟨j, h1, ?_⟩
  have key : ∀ (i j : Nat) (l l2 : List (Option Value)), (∀ q, q ≠ i → l2[q]? = l[q]?) → l[i]? = some none → l[j]? = some (some w) → l2[j]? = some (some w) := fun i j l l2 a b c => by
    by_cases hj : j = i
    · subst hj; rw [b] at c; cases c
    · rw [a j hj]; exact c
  exact key 2 j _ _ (fun q hq => by
    match q, hq with
    | 0, h => rfl
    | 1, h => rfl
    | 2, h => exact absurd rfl h
    | q + 3, _ => rfl) rfl h2
theorem x_drop_3 {a0 a1 a2 z : Option Value} {t : List (Option Value)} (kk : Ex K G N ρ sh pc (a0 :: a1 :: a2 :: none :: t) st σ) : Ex K G N ρ sh pc (a0 :: a1 :: a2 :: z :: t) st σ := by
  obtain ⟨p, l, e, R, s, m, args, below, meth, c, cells, slots, Q⟩ := K
  intro hR H locs ls hP hS hl
  refine kk hR H locs ls hP hS ⟨by simpa only [List.length_cons] using hl.1, hl.2.1, fun q hq => hl.2.2 q ?_⟩
  obtain ⟨a, w⟩ := q
  obtain ⟨j, h1, h2⟩ := (dn_mem _ 0 a w).mp hq
  refine (dn_mem _ 0 a w).mpr ⟨j, h1, ?_⟩
  have key : ∀ (i j : Nat) (l l2 : List (Option Value)), (∀ q, q ≠ i → l2[q]? = l[q]?) → l[i]? = some none → l[j]? = some (some w) → l2[j]? = some (some w) := fun i j l l2 a b c => by
    by_cases hj : j = i
    · subst hj; rw [b] at c; cases c
    · rw [a j hj]; exact c
  exact key 3 j _ _ (fun q hq => by
    match q, hq with
    | 0, h => rfl
    | 1, h => rfl
    | 2, h => rfl
    | 3, h => exact absurd rfl h
    | q + 4, _ => rfl) rfl h2
theorem x_drop_4 {a0 a1 a2 a3 z : Option Value} {t : List (Option Value)} (kk : Ex K G N ρ sh pc (a0 :: a1 :: a2 :: a3 :: none :: t) st σ) : Ex K G N ρ sh pc (a0 :: a1 :: a2 :: a3 :: z :: t) st σ := by
  obtain ⟨p, l, e, R, s, m, args, below, meth, c, cells, slots, Q⟩ := K
  intro hR H locs ls hP hS hl
  refine kk hR H locs ls hP hS ⟨by simpa only [List.length_cons] using hl.1, hl.2.1, fun q hq => hl.2.2 q ?_⟩
  obtain ⟨a, w⟩ := q
  obtain ⟨j, h1, h2⟩ := (dn_mem _ 0 a w).mp hq
  refine (dn_mem _ 0 a w).mpr ⟨j, h1, ?_⟩
  have key : ∀ (i j : Nat) (l l2 : List (Option Value)), (∀ q, q ≠ i → l2[q]? = l[q]?) → l[i]? = some none → l[j]? = some (some w) → l2[j]? = some (some w) := fun i j l l2 a b c => by
    by_cases hj : j = i
    · subst hj; rw [b] at c; cases c
    · rw [a j hj]; exact c
  exact key 4 j _ _ (fun q hq => by
    match q, hq with
    | 0, h => rfl
    | 1, h => rfl
    | 2, h => rfl
    | 3, h => rfl
    | 4, h => exact absurd rfl h
    | q + 5, _ => rfl) rfl h2
theorem x_drop_5 {a0 a1 a2 a3 a4 z : Option Value} {t : List (Option Value)} (kk : Ex K G N ρ sh pc (a0 :: a1 :: a2 :: a3 :: a4 :: none :: t) st σ) : Ex K G N ρ sh pc (a0 :: a1 :: a2 :: a3 :: a4 :: z :: t) st σ := by
  obtain ⟨p, l, e, R, s, m, args, below, meth, c, cells, slots, Q⟩ := K
  intro hR H locs ls hP hS hl
  refine kk hR H locs ls hP hS ⟨by simpa only [List.length_cons] using hl.1, hl.2.1, fun q hq => hl.2.2 q ?_⟩
  obtain ⟨a, w⟩ := q
  obtain ⟨j, h1, h2⟩ := (dn_mem _ 0 a w).mp hq
  refine (dn_mem _ 0 a w).mpr ⟨j, h1, ?_⟩
  have key : ∀ (i j : Nat) (l l2 : List (Option Value)), (∀ q, q ≠ i → l2[q]? = l[q]?) → l[i]? = some none → l[j]? = some (some w) → l2[j]? = some (some w) := fun i j l l2 a b c => by
    by_cases hj : j = i
    · subst hj; rw [b] at c; cases c
    · rw [a j hj]; exact c
  exact key 5 j _ _ (fun q hq => by
    match q, hq with
    | 0, h => rfl
    | 1, h => rfl
    | 2, h => rfl
    | 3, h => rfl
    | 4, h => rfl
    | 5, h => exact absurd rfl h
    | q + 6, _ => rfl) rfl h2
theorem x_drop_6 {a0 a1 a2 a3 a4 a5 z : Option Value} {t : List (Option Value)} (kk : Ex K G N ρ sh pc (a0 :: a1 :: a2 :: a3 :: a4 :: a5 :: none :: t) st σ) : Ex K G N ρ sh pc (a0 :: a1 :: a2 :: a3 :: a4 :: a5 :: z :: t) st σ := by
  obtain ⟨p, l, e, R, s, m, args, below, meth, c, cells, slots, Q⟩ := K
  intro hR H locs ls hP hS hl
  refine kk hR H locs ls hP hS ⟨by simpa only [List.length_cons] using hl.1, hl.2.1, fun q hq => hl.2.2 q ?_⟩
  obtain ⟨a, w⟩ := q
  obtain ⟨j, h1, h2⟩ := (dn_mem _ 0 a w).mp hq
  refine (dn_mem _ 0 a w).mpr ⟨j, h1, ?_⟩
  have key : ∀ (i j : Nat) (l l2 : List (Option Value)), (∀ q, q ≠ i → l2[q]? = l[q]?) → l[i]? = some none → l[j]? = some (some w) → l2[j]? = some (some w) := fun i j l l2 a b c => by
    by_cases hj : j = i
    · subst hj; rw [b] at c; cases c
    · rw [a j hj]; exact c
  exact key 6 j _ _ (fun q hq => by
    match q, hq with
    | 0, h => rfl
    | 1, h => rfl
    | 2, h => rfl
    | 3, h => rfl
    | 4, h => rfl
    | 5, h => rfl
    | 6, h => exact absurd rfl h
    | q + 7, _ => rfl) rfl h2
theorem x_drop_7 {a0 a1 a2 a3 a4 a5 a6 z : Option Value} {t : List (Option Value)} (kk : Ex K G N ρ sh pc (a0 :: a1 :: a2 :: a3 :: a4 :: a5 :: a6 :: none :: t) st σ) : Ex K G N ρ sh pc (a0 :: a1 :: a2 :: a3 :: a4 :: a5 :: a6 :: z :: t) st σ := by
  obtain ⟨p, l, e, R, s, m, args, below, meth, c, cells, slots, Q⟩ := K
  intro hR H locs ls hP hS hl
  refine kk hR H locs ls hP hS ⟨by simpa only [List.length_cons] using hl.1, hl.2.1, fun q hq => hl.2.2 q ?_⟩
  obtain ⟨a, w⟩ := q
  obtain ⟨j, h1, h2⟩ := (dn_mem _ 0 a w).mp hq
  refine (dn_mem _ 0 a w).mpr ⟨j, h1, ?_⟩
  have key : ∀ (i j : Nat) (l l2 : List (Option Value)), (∀ q, q ≠ i → l2[q]? = l[q]?) → l[i]? = some none → l[j]? = some (some w) → l2[j]? = some (some w) := fun i j l l2 a b c => by
    by_cases hj : j = i
    · subst hj; rw [b] at c; cases c
    · rw [a j hj]; exact c
  exact key 7 j _ _ (fun q hq => by
    match q, hq with
    | 0, h => rfl
    | 1, h => rfl
    | 2, h => rfl
    | 3, h => rfl
    | 4, h => rfl
    | 5, h => rfl
    | 6, h => rfl
    | 7, h => exact absurd rfl h
    | q + 8, _ => rfl) rfl h2
theorem x_drop_8 {a0 a1 a2 a3 a4 a5 a6 a7 z : Option Value} {t : List (Option Value)} (kk : Ex K G N ρ sh pc (a0 :: a1 :: a2 :: a3 :: a4 :: a5 :: a6 :: a7 :: none :: t) st σ) : Ex K G N ρ sh pc (a0 :: a1 :: a2 :: a3 :: a4 :: a5 :: a6 :: a7 :: z :: t) st σ := by
  obtain ⟨p, l, e, R, s, m, args, below, meth, c, cells, slots, Q⟩ := K
  intro hR H locs ls hP hS hl
  refine kk hR H locs ls hP hS ⟨by simpa only [List.length_cons] using hl.1, hl.2.1, fun q hq => hl.2.2 q ?_⟩
  obtain ⟨a, w⟩ := q
  obtain ⟨j, h1, h2⟩ := (dn_mem _ 0 a w).mp hq
  refine (dn_mem _ 0 a w).mpr ⟨j, h1, ?_⟩
  have key : ∀ (i j : Nat) (l l2 : List (Option Value)), (∀ q, q ≠ i → l2[q]? = l[q]?) → l[i]? = some none → l[j]? = some (some w) → l2[j]? = some (some w) := fun i j l l2 a b c => by
    by_cases hj : j = i
    · subst hj; rw [b] at c; cases c
    · rw [a j hj]; exact c
  exact key 8 j _ _ (fun q hq => by
    match q, hq with
    | 0, h => rfl
    | 1, h => rfl
    | 2, h => rfl
    | 3, h => rfl
    | 4, h => rfl
    | 5, h => rfl
    | 6, h => rfl
    | 7, h => rfl
    | 8, h => exact absurd rfl h
    | q + 9, _ => rfl) rfl h2
theorem x_drop_9 {a0 a1 a2 a3 a4 a5 a6 a7 a8 z : Option Value} {t : List (Option Value)} (kk : Ex K G N ρ sh pc (a0 :: a1 :: a2 :: a3 :: a4 :: a5 :: a6 :: a7 :: a8 :: none :: t) st σ) : Ex K G N ρ sh pc (a0 :: a1 :: a2 :: a3 :: a4 :: a5 :: a6 :: a7 :: a8 :: z :: t) st σ := by
  obtain ⟨p, l, e, R, s, m, args, below, meth, c, cells, slots, Q⟩ := K
  intro hR H locs ls hP hS hl
  refine kk hR H locs ls hP hS ⟨by simpa only [List.length_cons] using hl.1, hl.2.1, fun q hq => hl.2.2 q ?_⟩
  obtain ⟨a, w⟩ := q
  obtain ⟨j, h1, h2⟩ := (dn_mem _ 0 a w).mp hq
  refine (dn_mem _ 0 a w).mpr ⟨j, h1, ?_⟩
  have key : ∀ (i j : Nat) (l l2 : List (Option Value)), (∀ q, q ≠ i → l2[q]? = l[q]?) → l[i]? = some none → l[j]? = some (some w) → l2[j]? = some (some w) := fun i j l l2 a b c => by
    by_cases hj : j = i
    · subst hj; rw [b] at c; cases c
    · rw [a j hj]; exact c
  exact key 9 j _ _ (fun q hq => by
    match q, hq with
    | 0, h => rfl
    | 1, h => rfl
    | 2, h => rfl
    | 3, h => rfl
    | 4, h => rfl
    | 5, h => rfl
    | 6, h => rfl
    | 7, h => rfl
    | 8, h => rfl
    | 9, h => exact absurd rfl h
    | q + 10, _ => rfl) rfl h2
theorem x_drop_10 {a0 a1 a2 a3 a4 a5 a6 a7 a8 a9 z : Option Value} {t : List (Option Value)} (kk : Ex K G N ρ sh pc (a0 :: a1 :: a2 :: a3 :: a4 :: a5 :: a6 :: a7 :: a8 :: a9 :: none :: t) st σ) : Ex K G N ρ sh pc (a0 :: a1 :: a2 :: a3 :: a4 :: a5 :: a6 :: a7 :: a8 :: a9 :: z :: t) st σ := by
  obtain ⟨p, l, e, R, s, m, args, below, meth, c, cells, slots, Q⟩ := K
  intro hR H locs ls hP hS hl
  refine kk hR H locs ls hP hS ⟨by simpa only [List.length_cons] using hl.1, hl.2.1, fun q hq => hl.2.2 q ?_⟩
  obtain ⟨a, w⟩ := q
  obtain ⟨j, h1, h2⟩ := (dn_mem _ 0 a w).mp hq
  refine (dn_mem _ 0 a w).mpr ⟨j, h1, ?_⟩
  have key : ∀ (i j : Nat) (l l2 : List (Option Value)), (∀ q, q ≠ i → l2[q]? = l[q]?) → l[i]? = some none → l[j]? = some (some w) → l2[j]? = some (some w) := fun i j l l2 a b c => by
    by_cases hj : j = i
    · subst hj; rw [b] at c; cases c
    · rw [a j hj]; exact c
  exact key 10 j _ _ (fun q hq => by
    match q, hq with
    | 0, h => rfl
    | 1, h => rfl
    | 2, h => rfl
    | 3, h => rfl
    | 4, h => rfl
    | 5, h => rfl
    | 6, h => rfl
    | 7, h => rfl
    | 8, h => rfl
    | 9, h => rfl
    | 10, h => exact absurd rfl h
    | q + 11, _ => rfl) rfl h2
theorem x_drop_11 {a0 a1 a2 a3 a4 a5 a6 a7 a8 a9 a10 z : Option Value} {t : List (Option Value)} (kk : Ex K G N ρ sh pc (a0 :: a1 :: a2 :: a3 :: a4 :: a5 :: a6 :: a7 :: a8 :: a9 :: a10 :: none :: t) st σ) : Ex K G N ρ sh pc (a0 :: a1 :: a2 :: a3 :: a4 :: a5 :: a6 :: a7 :: a8 :: a9 :: a10 :: z :: t) st σ := by
  obtain ⟨p, l, e, R, s, m, args, below, meth, c, cells, slots, Q⟩ := K
  intro hR H locs ls hP hS hl
  refine kk hR H locs ls hP hS ⟨by simpa only [List.length_cons] using hl.1, hl.2.1, fun q hq => hl.2.2 q ?_⟩
  obtain ⟨a, w⟩ := q
  obtain ⟨j, h1, h2⟩ := (dn_mem _ 0 a w).mp hq
  refine (dn_mem _ 0 a w).mpr ⟨j, h1, ?_⟩
  have key : ∀ (i j : Nat) (l l2 : List (Option Value)), (∀ q, q ≠ i → l2[q]? = l[q]?) → l[i]? = some none → l[j]? = some (some w) → l2[j]? = some (some w) := fun i j l l2 a b c => by
    by_cases hj : j = i
    · subst hj; rw [b] at c; cases c
    · rw [a j hj]; exact c
  exact key 11 j _ _ (fun q hq => by
    match q, hq with
    | 0, h => rfl
    | 1, h => rfl
    | 2, h => rfl
    | 3, h => rfl
    | 4, h => rfl
    | 5, h => rfl
    | 6, h => rfl
    | 7, h => rfl
    | 8, h => rfl
    | 9, h => rfl
    | 10, h => rfl
    | 11, h => exact absurd rfl h
    | q + 12, _ => rfl) rfl h2
theorem x_drop_12 {a0 a1 a2 a3 a4 a5 a6 a7 a8 a9 a10 a11 z : Option Value} {t : List (Option Value)} (kk : Ex K G N ρ sh pc (a0 :: a1 :: a2 :: a3 :: a4 :: a5 :: a6 :: a7 :: a8 :: a9 :: a10 :: a11 :: none :: t) st σ) : Ex K G N ρ sh pc (a0 :: a1 :: a2 :: a3 :: a4 :: a5 :: a6 :: a7 :: a8 :: a9 :: a10 :: a11 :: z :: t) st σ := by
  obtain ⟨p, l, e, R, s, m, args, below, meth, c, cells, slots, Q⟩ := K
  intro hR H locs ls hP hS hl
  refine kk hR H locs ls hP hS ⟨by simpa only [List.length_cons] using hl.1, hl.2.1, fun q hq => hl.2.2 q ?_⟩
  obtain ⟨a, w⟩ := q
  obtain ⟨j, h1, h2⟩ := (dn_mem _ 0 a w).mp hq
  refine (dn_mem _ 0 a w).mpr ⟨j, h1, ?_⟩
  have key : ∀ (i j : Nat) (l l2 : List (Option Value)), (∀ q, q ≠ i → l2[q]? = l[q]?) → l[i]? = some none → l[j]? = some (some w) → l2[j]? = some (some w) := fun i j l l2 a b c => by
    by_cases hj : j = i
    · subst hj; rw [b] at c; cases c
    · rw [a j hj]; exact c
  exact key 12 j _ _ (fun q hq => by
    match q, hq with
    | 0, h => rfl
    | 1, h => rfl
    | 2, h => rfl
    | 3, h => rfl
    | 4, h => rfl
    | 5, h => rfl
    | 6, h => rfl
    | 7, h => rfl
    | 8, h => rfl
    | 9, h => rfl
    | 10, h => rfl
    | 11, h => rfl
    | 12, h => exact absurd rfl h
    | q + 13, _ => rfl) rfl h2
theorem x_drop_13 {a0 a1 a2 a3 a4 a5 a6 a7 a8 a9 a10 a11 a12 z : Option Value} {t : List (Option Value)} (kk : Ex K G N ρ sh pc (a0 :: a1 :: a2 :: a3 :: a4 :: a5 :: a6 :: a7 :: a8 :: a9 :: a10 :: a11 :: a12 :: none :: t) st σ) : Ex K G N ρ sh pc (a0 :: a1 :: a2 :: a3 :: a4 :: a5 :: a6 :: a7 :: a8 :: a9 :: a10 :: a11 :: a12 :: z :: t) st σ := by
  obtain ⟨p, l, e, R, s, m, args, below, meth, c, cells, slots, Q⟩ := K
  intro hR H locs ls hP hS hl
  refine kk hR H locs ls hP hS ⟨by simpa only [List.length_cons] using hl.1, hl.2.1, fun q hq => hl.2.2 q ?_⟩
  obtain ⟨a, w⟩ := q
  obtain ⟨j, h1, h2⟩ := (dn_mem _ 0 a w).mp hq
  refine (dn_mem _ 0 a w).mpr ⟨j, h1, ?_⟩
  have key : ∀ (i j : Nat) (l l2 : List (Option Value)), (∀ q, q ≠ i → l2[q]? = l[q]?) → l[i]? = some none → l[j]? = some (some w) → l2[j]? = some (some w) := fun i j l l2 a b c => by
    by_cases hj : j = i
    · subst hj; rw [b] at c; cases c
    · rw [a j hj]; exact c
  exact key 13 j _ _ (fun q hq => by
    match q, hq with
    | 0, h => rfl
    | 1, h => rfl
    | 2, h => rfl
    | 3, h => rfl
    | 4, h => rfl
    | 5, h => rfl
    | 6, h => rfl
    | 7, h => rfl
    | 8, h => rfl
    | 9, h => rfl
    | 10, h => rfl
    | 11, h => rfl
    | 12, h => rfl
    | 13, h => exact absurd rfl h
    | q + 14, _ => rfl) rfl h2
variable {post : Option Value → Sig → Prop}
theorem x_callUP {y : MethodName} {bytes : ByteArray} {mL fc lc ix : Nat} {rt : Option FieldType} {st0 As : List Value} {na : Nat} {ow : String} {x : MethodName} {ci nF lb : Nat} {fds : List Nat} {C1 : String} {T1 : u_T} (n : Nat) (C : Cx K G N ρ own cc nL fr lo) (d : decode cc pc = .ok (.invokespecial ix, 3)) (hn : pc + 3 = n) (hM : MX K.2.1 y bytes mL rt fc lc G N ρ sh (.ref (ρ lb) :: As) σ post) (hy : y = ⟨ow, x.name, x.desc⟩) (hs : sh lb = cO ci fds) (hN : lb < N) (hc : vwC[ci]? = some (C1, T1, nF)) (w1 : Cond.methodLink own ix x ∈ TB) (w2 : Cond.sameMethod x.cls ow x.name x.desc ∈ TB) (w3 : Cond.superclass own x.cls ∈ TB) (w9 : Cond.superclass x.cls ow ∈ TB) (w6 : Cond.instanceMethod y ∈ TB) (w4 : Cond.initialized y.cls ∈ TB) (w5 : Cond.code y bytes mL rt ∈ TB) (hd : x.name ≠ "<init>" ∧ (parseMethodDescriptor y.desc).map (fun d => d.parameters.length) = some na) (hna : As.length = na) (hro : fc + 1 ≤ fr ∧ 8 + (mL + 11) + lc ≤ lo) (hst : st0 = As.reverse ++ .ref (ρ lb) :: st) (h8 : (st.map fun v => v.category).sum ≤ 8) (hlv : lv.length = nL) (k : ∀ (r : Option Value) (σ1 : Sig), post r σ1 → Rng σ1 → Ex K G N ρ sh n lv (r.toList ++ st) σ1) : Ex K G N ρ sh pc lv (st0) (σ) := by
  obtain ⟨p, l, e, R, s, m, args, below, meth, c, cells, slots, Q⟩ := K
  obtain ⟨hx, hb, hml, hown, hts, hlk, hK, hI, hO, hfr, hlo, hce, hsl, hN2⟩ := C
  subst hn; subst hst; intro hR H locs ls hP hS hl
  have hrun : va_Run p l e R s m args below meth c H locs cells slots 0 0 (F0 m pc ls (As.reverse ++ .ref (ρ lb) :: st)) st (QX G N ρ sh post H.size (Value.ref (ρ lb) :: As).toArray) (AX N ρ H.size) := by
    have hws : ∀ w ∈ (Cond.code y bytes mL rt :: TB), ∀ (a' : Array Value) (U : State), s.WarmedH U.vm → w.before a' U = true := pay_in hts (good_all w5)
    have hK' : Back l R p e below s args y 3 8 (PreOf R 0 0 (va_Pc (Value.ref (ρ lb) :: As) (fun U => U.heap.size = H.size ∧ Rep G N ρ sh σ U))) (PostOf (QX G N ρ sh post H.size) 0 0 (AX N ρ H.size)) := back_of (bytes := bytes) (maxL := mL) (ret := rt) (hM H.size) Rep_blind rfl rfl (Nat.le_trans hro.1 hfr) (Nat.le_trans hro.2 hlo) hws List.mem_cons_self (fun a' U hW => word_at hW (Or.inl (by first | rfl | simp [Cond.onTables, Cond.keeps, Cond.steady])) (hts _ w4))
    obtain ⟨cellB, hcB, hoB, hclB⟩ := va_recv hK hP hc (mkW_at hN hs)
    obtain ⟨hfc, kB, hkB, -⟩ := (hK.1 ci _ hc).2
    rw [Option.some.inj (hfc.symm.trans hclB)] at hkB
    intro T hT X
    obtain ⟨mk, methM, hnamed, hmethM, hstM, habM⟩ := Cond.instanceMethod_spec (hts _ w6)
    obtain ⟨methM', cM, hmethM', -, -, -, -, -, -, hsigM⟩ := Cond.code_spec hnamed (hts _ w5)
    cases hmethM.symm.trans hmethM'
    obtain ⟨ps, dk, kp, hps, hdk, hkp, hsuper, -, -, hnid⟩ := Cond.superclass_spec hown (hts _ w3)
    obtain ⟨ps2, dk2, kp2, hps2, hdk2, hkp2, hsuper2, -, -, -⟩ := Cond.superclass_spec hps (hts _ w9)
    have hn2 : s.methodNamed? ⟨ow, x.name, x.desc⟩ = some mk := by rw [← hy]; exact hnamed
    have hpm : ps2 = mk.cls := Option.some.inj (hps2.symm.trans (findClass_of_methodNamed hn2))
    have hsub : s.vm.isSubclass ps mk.cls = true := by
      have hz : 0 < s.vm.classes.size := Nat.lt_of_le_of_lt (Nat.zero_le _) (Array.getElem?_eq_some_iff.mp hdk2).1
      obtain ⟨q, hq⟩ : ∃ q, s.vm.classes.size = q + 1 := ⟨s.vm.classes.size - 1, by omega⟩
      unfold Vm.isSubclass
      rw [hq]
      simp [Vm.isSubclassAux, hdk2, hsuper2, hpm]
    have hlen : ∀ sig, parseMethodDescriptor y.desc = some sig → As.length = sig.parameters.length := fun sig h => by
      have h2 := hd.2
      rw [h] at h2
      exact hna.trans (Option.some.inj h2).symm
    subst hb
    obtain ⟨vm₁, X₁, hstep₁⟩ := X.invokespecialUp hx hown (hts _ w1) (hts _ w2) hn2 hmethM hstM habM hd.1 hdk hnid hps hsuper hsub (a := ρ lb) (cell := cellB) (by rw [hT]; exact hcB)
      (fun z h => by rw [h] at hoB; cases hoB) hkB (g := F0 m pc ls (As.reverse ++ .ref (ρ lb) :: st)) rfl (argsL := As) (rest := st) (hlen _ hsigM) rfl d
    obtain ⟨v, ⟨U', l2, c2, s2⟩, X', ⟨g', mk', t, L, e1, e2, hq, h1, hL, h2, h3⟩, hsteps⟩ := hK' m meth c ⟨T.setVm vm₁, locs, cells, slots⟩ { (F0 m pc ls (As.reverse ++ .ref (ρ lb) :: st)) with stack := st } (.invokespecial ix) mk (Value.ref (ρ lb) :: As).toArray X₁ rfl ((hl.1.trans hlv).trans hml.symm) d (lv_room h8) (X₁.named hnamed) ⟨hce, hsl, rfl, by show T.heap.size = _; rw [hT], Rep_call (U := T.setVm vm₁) hN2 hI hR hP hK hO hS hT X₁.warmed⟩
    dsimp only [Pt.U, Pt.locs, Pt.cells, Pt.slots] at X' e1 e2 h1 h2 h3 hsteps hq
    subst h1; subst h2; subst h3
    exact ⟨v, (T.setVm vm₁).calling g' mk' (Value.ref (ρ lb) :: As).toArray, t, U', L, hT, X', hL, e1, e2, hq, fun target h => hstep₁ _ (by rw [doInvoke_state]; exact hsteps.trans h)⟩
  intro T hT X
  obtain ⟨v, st₀, t, T', L, h0, X', hL, e1, e2, ⟨⟨r, σ1, hv, hp, hR1, hP1⟩, hz, hk⟩, stp⟩ := hrun T hT X
  cases hv
  rw [h0] at hz hk
  obtain ⟨t2, a1, b1⟩ := k v σ1 hp hR1 hR1 T'.heap (locs ++ L) ls (by rw [e1]; exact hP1)
    ⟨Nat.le_trans hS.1 (by rw [e1]; exact hz), fun q h1 h2 => by rw [e1, hk q (Nat.lt_of_lt_of_le h1 hS.1) (fun z => h2 (AX_mono hS.1 q z))]; exact hS.2.1 q h1 h2, fun q hq => by
      rcases List.mem_append.mp hq with h | h
      · exact hS.2.2 q h
      · exact AX_mono hS.1 _ (hL q h)⟩ hl T' rfl X'
  exact ⟨t2, stp t2 a1, b1⟩
theorem x_callUPe {e0 : Int} {y : MethodName} {bytes : ByteArray} {mL fc lc ix : Nat} {rt : Option FieldType} {st0 As : List Value} {na : Nat} {ow : String} {x : MethodName} {ci nF lb : Nat} {fds : List Nat} {C1 : String} {T1 : u_T} (n : Nat) (C : Cx K G N ρ own cc nL fr lo) (d : decode cc pc = .ok (.invokespecial ix, 3)) (hn : pc + 3 = n) (hM : MX K.2.1 y bytes mL rt fc lc G N ρ sh (.ref (ρ lb) :: As) σ (PE σ e0)) (hy : y = ⟨ow, x.name, x.desc⟩) (hs : sh lb = cO ci fds) (hN : lb < N) (hc : vwC[ci]? = some (C1, T1, nF)) (w1 : Cond.methodLink own ix x ∈ TB) (w2 : Cond.sameMethod x.cls ow x.name x.desc ∈ TB) (w3 : Cond.superclass own x.cls ∈ TB) (w9 : Cond.superclass x.cls ow ∈ TB) (w6 : Cond.instanceMethod y ∈ TB) (w4 : Cond.initialized y.cls ∈ TB) (w5 : Cond.code y bytes mL rt ∈ TB) (hd : x.name ≠ "<init>" ∧ (parseMethodDescriptor y.desc).map (fun d => d.parameters.length) = some na) (hna : As.length = na) (hro : fc + 1 ≤ fr ∧ 8 + (mL + 11) + lc ≤ lo) (hst : st0 = As.reverse ++ .ref (ρ lb) :: st) (h8 : (st.map fun v => v.category).sum ≤ 8) (hlv : lv.length = nL) (k : (-2147483648 ≤ e0 ∧ e0 ≤ 2147483647) → Ex K G N ρ sh n lv (.int (iZ e0) :: st) σ) : Ex K G N ρ sh pc lv (st0) (σ) := x_callUP n C d hn hM hy hs hN hc w1 w2 w3 w9 w6 w4 w5 hd hna hro hst h8 hlv (fun r s1 hp hr => by obtain ⟨rfl, h1, rfl⟩ := hp; exact k h1)
theorem x_callUPi {q : Int → Sig → Prop} {y : MethodName} {bytes : ByteArray} {mL fc lc ix : Nat} {rt : Option FieldType} {st0 As : List Value} {na : Nat} {ow : String} {x : MethodName} {ci nF lb : Nat} {fds : List Nat} {C1 : String} {T1 : u_T} (n : Nat) (C : Cx K G N ρ own cc nL fr lo) (d : decode cc pc = .ok (.invokespecial ix, 3)) (hn : pc + 3 = n) (hM : MX K.2.1 y bytes mL rt fc lc G N ρ sh (.ref (ρ lb) :: As) σ (PI q)) (hy : y = ⟨ow, x.name, x.desc⟩) (hs : sh lb = cO ci fds) (hN : lb < N) (hc : vwC[ci]? = some (C1, T1, nF)) (w1 : Cond.methodLink own ix x ∈ TB) (w2 : Cond.sameMethod x.cls ow x.name x.desc ∈ TB) (w3 : Cond.superclass own x.cls ∈ TB) (w9 : Cond.superclass x.cls ow ∈ TB) (w6 : Cond.instanceMethod y ∈ TB) (w4 : Cond.initialized y.cls ∈ TB) (w5 : Cond.code y bytes mL rt ∈ TB) (hd : x.name ≠ "<init>" ∧ (parseMethodDescriptor y.desc).map (fun d => d.parameters.length) = some na) (hna : As.length = na) (hro : fc + 1 ≤ fr ∧ 8 + (mL + 11) + lc ≤ lo) (hst : st0 = As.reverse ++ .ref (ρ lb) :: st) (h8 : (st.map fun v => v.category).sum ≤ 8) (hlv : lv.length = nL) (k : ∀ (z : Int) (s1 : Sig), (-2147483648 ≤ z ∧ z ≤ 2147483647) → q z s1 → Rng s1 → Ex K G N ρ sh n lv (.int (iZ z) :: st) s1) : Ex K G N ρ sh pc lv (st0) (σ) := x_callUP n C d hn hM hy hs hN hc w1 w2 w3 w9 w6 w4 w5 hd hna hro hst h8 hlv (fun r s1 hp hr => by obtain ⟨z, rfl, h1, h2⟩ := hp; exact k z s1 h1 h2 hr)
theorem x_callUPv {qv : Sig → Prop} {y : MethodName} {bytes : ByteArray} {mL fc lc ix : Nat} {rt : Option FieldType} {st0 As : List Value} {na : Nat} {ow : String} {x : MethodName} {ci nF lb : Nat} {fds : List Nat} {C1 : String} {T1 : u_T} (n : Nat) (C : Cx K G N ρ own cc nL fr lo) (d : decode cc pc = .ok (.invokespecial ix, 3)) (hn : pc + 3 = n) (hM : MX K.2.1 y bytes mL rt fc lc G N ρ sh (.ref (ρ lb) :: As) σ (PV qv)) (hy : y = ⟨ow, x.name, x.desc⟩) (hs : sh lb = cO ci fds) (hN : lb < N) (hc : vwC[ci]? = some (C1, T1, nF)) (w1 : Cond.methodLink own ix x ∈ TB) (w2 : Cond.sameMethod x.cls ow x.name x.desc ∈ TB) (w3 : Cond.superclass own x.cls ∈ TB) (w9 : Cond.superclass x.cls ow ∈ TB) (w6 : Cond.instanceMethod y ∈ TB) (w4 : Cond.initialized y.cls ∈ TB) (w5 : Cond.code y bytes mL rt ∈ TB) (hd : x.name ≠ "<init>" ∧ (parseMethodDescriptor y.desc).map (fun d => d.parameters.length) = some na) (hna : As.length = na) (hro : fc + 1 ≤ fr ∧ 8 + (mL + 11) + lc ≤ lo) (hst : st0 = As.reverse ++ .ref (ρ lb) :: st) (h8 : (st.map fun v => v.category).sum ≤ 8) (hlv : lv.length = nL) (k : ∀ (s1 : Sig), qv s1 → Rng s1 → Ex K G N ρ sh n lv st s1) : Ex K G N ρ sh pc lv (st0) (σ) := x_callUP n C d hn hM hy hs hN hc w1 w2 w3 w9 w6 w4 w5 hd hna hro hst h8 hlv (fun r s1 hp hr => by obtain ⟨rfl, h2⟩ := hp; exact k s1 h2 hr)
theorem x_callUPr {qr : Nat → Sig → Prop} {y : MethodName} {bytes : ByteArray} {mL fc lc ix : Nat} {rt : Option FieldType} {st0 As : List Value} {na : Nat} {ow : String} {x : MethodName} {ci nF lb : Nat} {fds : List Nat} {C1 : String} {T1 : u_T} (n : Nat) (C : Cx K G N ρ own cc nL fr lo) (d : decode cc pc = .ok (.invokespecial ix, 3)) (hn : pc + 3 = n) (hM : MX K.2.1 y bytes mL rt fc lc G N ρ sh (.ref (ρ lb) :: As) σ (PR ρ qr)) (hy : y = ⟨ow, x.name, x.desc⟩) (hs : sh lb = cO ci fds) (hN : lb < N) (hc : vwC[ci]? = some (C1, T1, nF)) (w1 : Cond.methodLink own ix x ∈ TB) (w2 : Cond.sameMethod x.cls ow x.name x.desc ∈ TB) (w3 : Cond.superclass own x.cls ∈ TB) (w9 : Cond.superclass x.cls ow ∈ TB) (w6 : Cond.instanceMethod y ∈ TB) (w4 : Cond.initialized y.cls ∈ TB) (w5 : Cond.code y bytes mL rt ∈ TB) (hd : x.name ≠ "<init>" ∧ (parseMethodDescriptor y.desc).map (fun d => d.parameters.length) = some na) (hna : As.length = na) (hro : fc + 1 ≤ fr ∧ 8 + (mL + 11) + lc ≤ lo) (hst : st0 = As.reverse ++ .ref (ρ lb) :: st) (h8 : (st.map fun v => v.category).sum ≤ 8) (hlv : lv.length = nL) (k : ∀ (z : Nat) (s1 : Sig), qr z s1 → Rng s1 → Ex K G N ρ sh n lv (.ref (ρ z) :: st) s1) : Ex K G N ρ sh pc lv (st0) (σ) := x_callUP n C d hn hM hy hs hN hc w1 w2 w3 w9 w6 w4 w5 hd hna hro hst h8 hlv (fun r s1 hp hr => by obtain ⟨z, rfl, h2⟩ := hp; exact k z s1 h2 hr)
theorem x_callUPl {q : Int → Sig → Prop} {y : MethodName} {bytes : ByteArray} {mL fc lc ix : Nat} {rt : Option FieldType} {st0 As : List Value} {na : Nat} {ow : String} {x : MethodName} {ci nF lb : Nat} {fds : List Nat} {C1 : String} {T1 : u_T} (n : Nat) (C : Cx K G N ρ own cc nL fr lo) (d : decode cc pc = .ok (.invokespecial ix, 3)) (hn : pc + 3 = n) (hM : MX K.2.1 y bytes mL rt fc lc G N ρ sh (.ref (ρ lb) :: As) σ (PL q)) (hy : y = ⟨ow, x.name, x.desc⟩) (hs : sh lb = cO ci fds) (hN : lb < N) (hc : vwC[ci]? = some (C1, T1, nF)) (w1 : Cond.methodLink own ix x ∈ TB) (w2 : Cond.sameMethod x.cls ow x.name x.desc ∈ TB) (w3 : Cond.superclass own x.cls ∈ TB) (w9 : Cond.superclass x.cls ow ∈ TB) (w6 : Cond.instanceMethod y ∈ TB) (w4 : Cond.initialized y.cls ∈ TB) (w5 : Cond.code y bytes mL rt ∈ TB) (hd : x.name ≠ "<init>" ∧ (parseMethodDescriptor y.desc).map (fun d => d.parameters.length) = some na) (hna : As.length = na) (hro : fc + 1 ≤ fr ∧ 8 + (mL + 11) + lc ≤ lo) (hst : st0 = As.reverse ++ .ref (ρ lb) :: st) (h8 : (st.map fun v => v.category).sum ≤ 8) (hlv : lv.length = nL) (k : ∀ (z : Int) (s1 : Sig), q z s1 → Rng s1 → Ex K G N ρ sh n lv (.long (lZ z) :: st) s1) : Ex K G N ρ sh pc lv (st0) (σ) := x_callUP n C d hn hM hy hs hN hc w1 w2 w3 w9 w6 w4 w5 hd hna hro hst h8 hlv (fun r s1 hp hr => by obtain ⟨z, rfl, h2⟩ := hp; exact k z s1 h2 hr)
end ROWS
set_option maxHeartbeats 4000000 in
set_option maxRecDepth 100000 in
theorem c_X8_cellIn {l : Launch} {G : Gt} {ρ : Nat → Nat} {tc : Nat} {cl : Nat → Nat} {σ : Sig} {lb : Nat} {m h n : Int} (hm : 0 ≤ m ∧ m ≤ 23) (hh : 0 ≤ h ∧ h ≤ 35) (hn : 0 ≤ n ∧ n ≤ 9) : MX l yX8_cellIn cX8_cellIn 4 (some .int) 0 0 G (NN tc) ρ (shp tc cl) [.ref (ρ lb), .int (iZ m), .int (iZ h), .int (iZ n)] σ (PE σ h) := by
  refine MX_of [some (.ref (ρ lb)), some (.int (iZ m)), some (.int (iZ h)), some (.int (iZ n))] (by decide +kernel) rfl rfl (Nat.le_of_ble_eq_true rfl) ?_
  intro K hKl C T hRng
  subst hKl
  refine x_iload_n 1 C dX8_cellIn_0 rfl rfl rfl ?_
  refine x_iret C T dX8_cellIn_1 ?_
  exact PE_i rfl (by omega)

set_option maxHeartbeats 4000000 in
set_option maxRecDepth 100000 in
theorem c_X10_cellIn {l : Launch} {G : Gt} {ρ : Nat → Nat} {tc : Nat} {cl : Nat → Nat} {σ : Sig} {lb : Nat} {m h n : Int} (hm : 0 ≤ m ∧ m ≤ 23) (hh : 0 ≤ h ∧ h ≤ 35) (hn : 0 ≤ n ∧ n ≤ 9) : MX l yX10_cellIn cX10_cellIn 5 (some .int) 0 0 G (NN tc) ρ (shp tc cl) [.ref (ρ lb), .int (iZ m), .int (iZ h), .int (iZ n)] σ (PE σ (h / 6 * 6 + (h % 6 + m / (n + 1)) % 6)) := by
  refine MX_of [some (.ref (ρ lb)), some (.int (iZ m)), some (.int (iZ h)), some (.int (iZ n)), none] (by decide +kernel) rfl rfl (Nat.le_of_ble_eq_true rfl) ?_
  intro K hKl C T hRng
  subst hKl
  have hd := div_in hm.1 (show 0 < n + 1 by omega)
  refine x_iload_n 1 C dX10_cellIn_0 rfl rfl rfl ?_
  refine x_bipush 3 C dX10_cellIn_1 rfl rfl ?_
  refine x_irem 4 C dX10_cellIn_3 rfl (by omega) (by omega) ?_
  refine x_iload_n 5 C dX10_cellIn_4 rfl rfl rfl ?_
  refine x_iload_n 6 C dX10_cellIn_5 rfl rfl rfl ?_
  refine x_iconst 7 C dX10_cellIn_6 rfl ?_
  refine x_iadd 8 C dX10_cellIn_7 rfl ?_
  refine x_idiv 9 C dX10_cellIn_8 rfl (by omega) (by omega) ?_
  refine x_iadd 10 C dX10_cellIn_9 rfl ?_
  refine x_bipush 12 C dX10_cellIn_10 rfl rfl ?_
  refine x_irem 13 C dX10_cellIn_12 rfl (by omega) (by omega) ?_
  refine x_istore_4 15 C dX10_cellIn_13 rfl rfl ?_
  refine x_iload_n 16 C dX10_cellIn_15 rfl rfl rfl ?_
  refine x_iload_n 17 C dX10_cellIn_16 rfl rfl rfl ?_
  refine x_bipush 19 C dX10_cellIn_17 rfl rfl ?_
  refine x_irem 20 C dX10_cellIn_19 rfl (by omega) (by omega) ?_
  refine x_isub 21 C dX10_cellIn_20 rfl ?_
  refine x_iload 23 C dX10_cellIn_21 rfl rfl ?_
  refine x_iadd 24 C dX10_cellIn_23 rfl ?_
  refine x_iret C T dX10_cellIn_24 ?_
  exact PE_i (by omega) (by omega)

set_option maxHeartbeats 4000000 in
set_option maxRecDepth 100000 in
theorem c_X0_cellIn {l : Launch} {G : Gt} {ρ : Nat → Nat} {tc : Nat} {cl : Nat → Nat} {σ : Sig} {m h n : Int} (hm : 0 ≤ m ∧ m ≤ 23) (hh : 0 ≤ h ∧ h ≤ 35) (hn : 0 ≤ n ∧ n ≤ 9) : MX l yX0_cellIn cX0_cellIn 4 (some .int) 1 24 G (NN tc) ρ (shp tc cl) [.ref (ρ 25), .int (iZ m), .int (iZ h), .int (iZ n)] σ (PE σ (if m % 2 = 1 then h else h / 6 * 6 + (h % 6 + m / (n + 1)) % 6)) := by
  refine MX_of [some (.ref (ρ 25)), some (.int (iZ m)), some (.int (iZ h)), some (.int (iZ n))] (by decide +kernel) rfl rfl (Nat.le_of_ble_eq_true rfl) ?_
  intro K hKl C T hRng
  subst hKl
  have hd := div_in hm.1 (show 0 < n + 1 by omega)
  refine x_iload_n 1 C dX0_cellIn_0 rfl rfl rfl ?_
  refine x_iconst 2 C dX0_cellIn_1 rfl ?_
  refine x_irem 3 C dX0_cellIn_2 rfl (by omega) (by omega) ?_
  refine x_iconst 4 C dX0_cellIn_3 rfl ?_
  refine x_icmp_ne 11 7 C dX0_cellIn_4 rfl rfl (by omega) (by omega) (fun h4 => ?_) (fun h4 => ?_)
  · refine x_aload_n 12 C dX0_cellIn_11 rfl rfl rfl ?_
    refine x_iload_n 13 C dX0_cellIn_12 rfl rfl rfl ?_
    refine x_iload_n 14 C dX0_cellIn_13 rfl rfl rfl ?_
    refine x_iload_n 15 C dX0_cellIn_14 rfl rfl rfl ?_
    refine x_callSUe 18 C dX0_cellIn_15 rfl (c_X10_cellIn (by omega) (by omega) (by omega)) rfl (lt79 (by decide)) rfl tb_3_30 tb_6_127 tb_1_130 tb_3_31 tb_1_4 tb_3_32 (na := 3) (by decide +kernel) rfl ⟨by decide, by decide⟩ rfl (Nat.le_of_ble_eq_true rfl) rfl (fun r15 => ?_)
    refine x_iret C T dX0_cellIn_18 ?_
    exact PE_i (by first | rw [if_pos (by omega)] | rw [if_neg (by omega)]) (by omega)
  refine x_iload_n 8 C dX0_cellIn_7 rfl rfl rfl ?_
  refine x_goto 18 C dX0_cellIn_8 rfl ?_
  refine x_iret C T dX0_cellIn_18 ?_
  exact PE_i (by first | rw [if_pos (by omega)] | rw [if_neg (by omega)]) (by omega)

set_option maxHeartbeats 4000000 in
set_option maxRecDepth 100000 in
theorem c_X8_shows {l : Launch} {G : Gt} {ρ : Nat → Nat} {tc : Nat} {cl : Nat → Nat} {σ : Sig} {lb : Nat} {f n g : Int} (hf : 0 ≤ f ∧ f ≤ 9) (hn : 0 ≤ n ∧ n ≤ 9) (hg : 0 ≤ g ∧ g ≤ 9) : MX l yX8_shows cX8_shows 4 (some .boolean) 0 0 G (NN tc) ρ (shp tc cl) [.ref (ρ lb), .int (iZ f), .int (iZ n), .int (iZ g)] σ (PE σ (b2 (f ≤ 9 - g))) := by
  refine MX_of [some (.ref (ρ lb)), some (.int (iZ f)), some (.int (iZ n)), some (.int (iZ g))] (by decide +kernel) rfl rfl (Nat.le_of_ble_eq_true rfl) ?_
  intro K hKl C T hRng
  subst hKl
  refine x_iload_n 1 C dX8_shows_0 rfl rfl rfl ?_
  refine x_bipush 3 C dX8_shows_1 rfl rfl ?_
  refine x_iload_n 4 C dX8_shows_3 rfl rfl rfl ?_
  refine x_isub 5 C dX8_shows_4 rfl ?_
  refine x_icmp_gt 12 8 C dX8_shows_5 rfl rfl (by omega) (by omega) (fun h5 => ?_) (fun h5 => ?_)
  · refine x_iconst 13 C dX8_shows_12 rfl ?_
    refine x_zret C T dX8_shows_13 (by omega) ?_
    exact PE_i (by unfold b2; split <;> omega) (by omega)
  refine x_iconst 9 C dX8_shows_8 rfl ?_
  refine x_goto 13 C dX8_shows_9 rfl ?_
  refine x_zret C T dX8_shows_13 (by omega) ?_
  exact PE_i (by unfold b2; split <;> omega) (by omega)

set_option maxHeartbeats 4000000 in
set_option maxRecDepth 100000 in
theorem c_X4_shows {l : Launch} {G : Gt} {ρ : Nat → Nat} {tc : Nat} {cl : Nat → Nat} {σ : Sig} {lb : Nat} {f n g : Int} (hf : 0 ≤ f ∧ f ≤ 9) (hn : 0 ≤ n ∧ n ≤ 9) (hg : 0 ≤ g ∧ g ≤ 9) : MX l yX4_shows cX4_shows 4 (some .boolean) 0 0 G (NN tc) ρ (shp tc cl) [.ref (ρ lb), .int (iZ f), .int (iZ n), .int (iZ g)] σ (PE σ (b2 (f = 1))) := by
  refine MX_of [some (.ref (ρ lb)), some (.int (iZ f)), some (.int (iZ n)), some (.int (iZ g))] (by decide +kernel) rfl rfl (Nat.le_of_ble_eq_true rfl) ?_
  intro K hKl C T hRng
  subst hKl
  refine x_iload_n 1 C dX4_shows_0 rfl rfl rfl ?_
  refine x_iconst 2 C dX4_shows_1 rfl ?_
  refine x_icmp_ne 9 5 C dX4_shows_2 rfl rfl (by omega) (by omega) (fun h2 => ?_) (fun h2 => ?_)
  · refine x_iconst 10 C dX4_shows_9 rfl ?_
    refine x_zret C T dX4_shows_10 (by omega) ?_
    exact PE_i (by unfold b2; split <;> omega) (by omega)
  refine x_iconst 6 C dX4_shows_5 rfl ?_
  refine x_goto 10 C dX4_shows_6 rfl ?_
  refine x_zret C T dX4_shows_10 (by omega) ?_
  exact PE_i (by unfold b2; split <;> omega) (by omega)

set_option maxHeartbeats 4000000 in
set_option maxRecDepth 100000 in
theorem c_X2_shows {l : Launch} {G : Gt} {ρ : Nat → Nat} {tc : Nat} {cl : Nat → Nat} {σ : Sig} {lb : Nat} {f n g : Int} (hf : 0 ≤ f ∧ f ≤ 9) (hn : 0 ≤ n ∧ n ≤ 9) (hg : 0 ≤ g ∧ g ≤ 9) : MX l yX2_shows cX2_shows 4 (some .boolean) 0 0 G (NN tc) ρ (shp tc cl) [.ref (ρ lb), .int (iZ f), .int (iZ n), .int (iZ g)] σ (PE σ (b2 (g < 9))) := by
  refine MX_of [some (.ref (ρ lb)), some (.int (iZ f)), some (.int (iZ n)), some (.int (iZ g))] (by decide +kernel) rfl rfl (Nat.le_of_ble_eq_true rfl) ?_
  intro K hKl C T hRng
  subst hKl
  refine x_iload_n 1 C dX2_shows_0 rfl rfl rfl ?_
  refine x_bipush 3 C dX2_shows_1 rfl rfl ?_
  refine x_icmp_ge 10 6 C dX2_shows_3 rfl rfl (by omega) (by omega) (fun h3 => ?_) (fun h3 => ?_)
  · refine x_iconst 11 C dX2_shows_10 rfl ?_
    refine x_zret C T dX2_shows_11 (by omega) ?_
    exact PE_i (by unfold b2; split <;> omega) (by omega)
  refine x_iconst 7 C dX2_shows_6 rfl ?_
  refine x_goto 11 C dX2_shows_7 rfl ?_
  refine x_zret C T dX2_shows_11 (by omega) ?_
  exact PE_i (by unfold b2; split <;> omega) (by omega)

set_option maxHeartbeats 4000000 in
set_option maxRecDepth 100000 in
theorem c_X8_worth {l : Launch} {G : Gt} {ρ : Nat → Nat} {tc : Nat} {cl : Nat → Nat} {σ : Sig} {lb : Nat} {v f n : Int} (hv : -99 ≤ v ∧ v ≤ 198) (hf : 0 ≤ f ∧ f ≤ 9) (hn : 0 ≤ n ∧ n ≤ 9) : MX l yX8_worth cX8_worth 4 (some .int) 0 0 G (NN tc) ρ (shp tc cl) [.ref (ρ lb), .int (iZ v), .int (iZ f), .int (iZ n)] σ (PE σ v) := by
  refine MX_of [some (.ref (ρ lb)), some (.int (iZ v)), some (.int (iZ f)), some (.int (iZ n))] (by decide +kernel) rfl rfl (Nat.le_of_ble_eq_true rfl) ?_
  intro K hKl C T hRng
  subst hKl
  refine x_iload_n 1 C dX8_worth_0 rfl rfl rfl ?_
  refine x_iret C T dX8_worth_1 ?_
  exact PE_i rfl (by omega)

set_option maxHeartbeats 4000000 in
set_option maxRecDepth 100000 in
theorem c_X4_worth {l : Launch} {G : Gt} {ρ : Nat → Nat} {tc : Nat} {cl : Nat → Nat} {σ : Sig} {lb : Nat} {v f n : Int} (hv : -99 ≤ v ∧ v ≤ 198) (hf : 0 ≤ f ∧ f ≤ 9) (hn : 0 ≤ n ∧ n ≤ 9) : MX l yX4_worth cX4_worth 4 (some .int) 0 0 G (NN tc) ρ (shp tc cl) [.ref (ρ lb), .int (iZ v), .int (iZ f), .int (iZ n)] σ (PE σ (v.tdiv 2)) := by
  refine MX_of [some (.ref (ρ lb)), some (.int (iZ v)), some (.int (iZ f)), some (.int (iZ n))] (by decide +kernel) rfl rfl (Nat.le_of_ble_eq_true rfl) ?_
  intro K hKl C T hRng
  subst hKl
  have ht : -99 ≤ v.tdiv 2 ∧ v.tdiv 2 ≤ 99 := by
    rcases Int.le_total 0 v with h | h
    · rw [Int.tdiv_eq_ediv_of_nonneg h]; omega
    · rw [show v.tdiv 2 = -((-v) / 2) by rw [← Int.tdiv_eq_ediv_of_nonneg (show 0 ≤ -v by omega), Int.neg_tdiv, Int.neg_neg]]; omega
  refine x_iload_n 1 C dX4_worth_0 rfl rfl rfl ?_
  refine x_iconst 2 C dX4_worth_1 rfl ?_
  refine x_idivT 3 C dX4_worth_2 rfl (by omega) (by omega) ?_
  refine x_iret C T dX4_worth_3 ?_
  exact PE_i rfl (by omega)

set_option maxHeartbeats 4000000 in
set_option maxRecDepth 100000 in
theorem c_X10_worth {l : Launch} {G : Gt} {ρ : Nat → Nat} {tc : Nat} {cl : Nat → Nat} {σ : Sig} {lb : Nat} (hlb : lb = 23 ∨ lb = 25) {v f n : Int} (hv : -99 ≤ v ∧ v ≤ 198) (hf : 0 ≤ f ∧ f ≤ 9) (hn : 0 ≤ n ∧ n ≤ 9) : MX l yX10_worth cX10_worth 4 (some .int) 1 23 G (NN tc) ρ (shp tc cl) [.ref (ρ lb), .int (iZ v), .int (iZ f), .int (iZ n)] σ (PE σ (v + f)) := by
  refine MX_of [some (.ref (ρ lb)), some (.int (iZ v)), some (.int (iZ f)), some (.int (iZ n))] (by decide +kernel) rfl rfl (Nat.le_of_ble_eq_true rfl) ?_
  intro K hKl C T hRng
  subst hKl
  have hsh : ∃ ci, shp tc cl lb = cO ci [] ∧ (ci = 10 ∨ ci = 0) := by rcases hlb with rfl | rfl <;> first | exact ⟨10, rfl, Or.inl rfl⟩ | exact ⟨0, rfl, Or.inr rfl⟩
  obtain ⟨ci, hci, hcc⟩ := hsh
  obtain ⟨C1, T1, nF, hvw⟩ : ∃ C1 T1 nF, vwC[ci]? = some (C1, T1, nF) := by rcases hcc with rfl | rfl <;> exact ⟨_, _, _, rfl⟩
  refine x_aload_n 1 C dX10_worth_0 rfl rfl rfl ?_
  refine x_iload_n 2 C dX10_worth_1 rfl rfl rfl ?_
  refine x_iload_n 3 C dX10_worth_2 rfl rfl rfl ?_
  refine x_iload_n 4 C dX10_worth_3 rfl rfl rfl ?_
  refine x_callSUe 7 C dX10_worth_4 rfl (c_X8_worth (by omega) (by omega) (by omega)) hci (by unfold NN; omega) hvw tb_3_134 tb_3_127 tb_1_116 tb_3_125 tb_1_3 tb_3_147 (na := 3) (by decide +kernel) rfl ⟨by decide, by decide⟩ rfl (Nat.le_of_ble_eq_true rfl) rfl (fun r4 => ?_)
  refine x_iload_n 8 C dX10_worth_7 rfl rfl rfl ?_
  refine x_iadd 9 C dX10_worth_8 rfl ?_
  refine x_iret C T dX10_worth_9 ?_
  exact PE_i rfl (by omega)

set_option maxHeartbeats 4000000 in
set_option maxRecDepth 100000 in
theorem c_X2_worth {l : Launch} {G : Gt} {ρ : Nat → Nat} {tc : Nat} {cl : Nat → Nat} {σ : Sig} {v f n : Int} (hv : -99 ≤ v ∧ v ≤ 198) (hf : 0 ≤ f ∧ f ≤ 9) (hn : 0 ≤ n ∧ n ≤ 9) : MX l yX2_worth cX2_worth 4 (some .int) 1 23 G (NN tc) ρ (shp tc cl) [.ref (ρ 27), .int (iZ v), .int (iZ f), .int (iZ n)] σ (PE σ (v - f)) := by
  refine MX_of [some (.ref (ρ 27)), some (.int (iZ v)), some (.int (iZ f)), some (.int (iZ n))] (by decide +kernel) rfl rfl (Nat.le_of_ble_eq_true rfl) ?_
  intro K hKl C T hRng
  subst hKl
  refine x_aload_n 1 C dX2_worth_0 rfl rfl rfl ?_
  refine x_iload_n 2 C dX2_worth_1 rfl rfl rfl ?_
  refine x_iload_n 3 C dX2_worth_2 rfl rfl rfl ?_
  refine x_iload_n 4 C dX2_worth_3 rfl rfl rfl ?_
  refine x_callSUe 7 C dX2_worth_4 rfl (c_X8_worth (by omega) (by omega) (by omega)) rfl (lt79 (by decide)) rfl tb_3_144 tb_3_127 tb_1_144 tb_3_125 tb_1_3 tb_3_147 (na := 3) (by decide +kernel) rfl ⟨by decide, by decide⟩ rfl (Nat.le_of_ble_eq_true rfl) rfl (fun r4 => ?_)
  refine x_iload_n 8 C dX2_worth_7 rfl rfl rfl ?_
  refine x_isub 9 C dX2_worth_8 rfl ?_
  refine x_iret C T dX2_worth_9 ?_
  exact PE_i rfl (by omega)

set_option maxHeartbeats 4000000 in
set_option maxRecDepth 100000 in
theorem c_X0_worth {l : Launch} {G : Gt} {ρ : Nat → Nat} {tc : Nat} {cl : Nat → Nat} {σ : Sig} {v f n : Int} (hv : -99 ≤ v ∧ v ≤ 198) (hf : 0 ≤ f ∧ f ≤ 9) (hn : 0 ≤ n ∧ n ≤ 9) : MX l yX0_worth cX0_worth 4 (some .int) 2 46 G (NN tc) ρ (shp tc cl) [.ref (ρ 25), .int (iZ v), .int (iZ f), .int (iZ n)] σ (PE σ (2 * (v + f))) := by
  refine MX_of [some (.ref (ρ 25)), some (.int (iZ v)), some (.int (iZ f)), some (.int (iZ n))] (by decide +kernel) rfl rfl (Nat.le_of_ble_eq_true rfl) ?_
  intro K hKl C T hRng
  subst hKl
  refine x_iconst 1 C dX0_worth_0 rfl ?_
  refine x_aload_n 2 C dX0_worth_1 rfl rfl rfl ?_
  refine x_iload_n 3 C dX0_worth_2 rfl rfl rfl ?_
  refine x_iload_n 4 C dX0_worth_3 rfl rfl rfl ?_
  refine x_iload_n 5 C dX0_worth_4 rfl rfl rfl ?_
  refine x_callSUe 8 C dX0_worth_5 rfl (c_X10_worth (by omega) (by omega) (by omega) (by omega)) rfl (lt79 (by decide)) rfl tb_3_131 tb_6_129 tb_1_130 tb_3_132 tb_1_4 tb_3_133 (na := 3) (by decide +kernel) rfl ⟨by decide, by decide⟩ rfl (Nat.le_of_ble_eq_true rfl) rfl (fun r5 => ?_)
  refine x_imul 9 C dX0_worth_8 rfl ?_
  refine x_iret C T dX0_worth_9 ?_
  exact PE_i rfl (by omega)

set_option maxHeartbeats 4000000 in
set_option maxRecDepth 100000 in
theorem c_X1_worth {l : Launch} {G : Gt} {ρ : Nat → Nat} {tc : Nat} {cl : Nat → Nat} {σ : Sig} {v f n : Int} (hv : -99 ≤ v ∧ v ≤ 198) (hf : 0 ≤ f ∧ f ≤ 9) (hn : 0 ≤ n ∧ n ≤ 9) : MX l yX1_worth cX1_worth 4 (some .int) 1 23 G (NN tc) ρ (shp tc cl) [.ref (ρ 26), .int (iZ v), .int (iZ f), .int (iZ n)] σ (PE σ (v.tdiv 2 + n)) := by
  refine MX_of [some (.ref (ρ 26)), some (.int (iZ v)), some (.int (iZ f)), some (.int (iZ n))] (by decide +kernel) rfl rfl (Nat.le_of_ble_eq_true rfl) ?_
  intro K hKl C T hRng
  subst hKl
  have ht : -99 ≤ v.tdiv 2 ∧ v.tdiv 2 ≤ 99 := by
    rcases Int.le_total 0 v with h | h
    · rw [Int.tdiv_eq_ediv_of_nonneg h]; omega
    · rw [show v.tdiv 2 = -((-v) / 2) by rw [← Int.tdiv_eq_ediv_of_nonneg (show 0 ≤ -v by omega), Int.neg_tdiv, Int.neg_neg]]; omega
  refine x_aload_n 1 C dX1_worth_0 rfl rfl rfl ?_
  refine x_iload_n 2 C dX1_worth_1 rfl rfl rfl ?_
  refine x_iload_n 3 C dX1_worth_2 rfl rfl rfl ?_
  refine x_iload_n 4 C dX1_worth_3 rfl rfl rfl ?_
  refine x_callSUe 7 C dX1_worth_4 rfl (c_X4_worth (by omega) (by omega) (by omega)) rfl (lt79 (by decide)) rfl tb_3_138 tb_6_130 tb_1_137 tb_3_139 tb_1_5 tb_3_140 (na := 3) (by decide +kernel) rfl ⟨by decide, by decide⟩ rfl (Nat.le_of_ble_eq_true rfl) rfl (fun r4 => ?_)
  refine x_iload_n 8 C dX1_worth_7 rfl rfl rfl ?_
  refine x_iadd 9 C dX1_worth_8 rfl ?_
  refine x_iret C T dX1_worth_9 ?_
  exact PE_i rfl (by omega)

set_option maxHeartbeats 4000000 in
set_option maxRecDepth 100000 in
theorem c_X0_shows {l : Launch} {G : Gt} {ρ : Nat → Nat} {tc : Nat} {cl : Nat → Nat} {σ : Sig} {f n g : Int} (hf : 0 ≤ f ∧ f ≤ 9) (hn : 0 ≤ n ∧ n ≤ 9) (hg : 0 ≤ g ∧ g ≤ 9) : MX l yX0_shows cX0_shows 4 (some .boolean) 1 23 G (NN tc) ρ (shp tc cl) [.ref (ρ 25), .int (iZ f), .int (iZ n), .int (iZ g)] σ (PE σ (b2 (f ≠ 1 ∧ f ≤ 9 - g))) := by
  refine MX_of [some (.ref (ρ 25)), some (.int (iZ f)), some (.int (iZ n)), some (.int (iZ g))] (by decide +kernel) rfl rfl (Nat.le_of_ble_eq_true rfl) ?_
  intro K hKl C T hRng
  subst hKl
  refine x_iload_n 1 C dX0_shows_0 rfl rfl rfl ?_
  refine x_iconst 2 C dX0_shows_1 rfl ?_
  refine x_icmp_eq 19 5 C dX0_shows_2 rfl rfl (by omega) (by omega) (fun h2 => ?_) (fun h2 => ?_)
  · refine x_iconst 20 C dX0_shows_19 rfl ?_
    refine x_zret C T dX0_shows_20 (by omega) ?_
    exact PE_i (by unfold b2; split <;> omega) (by omega)
  refine x_aload_n 6 C dX0_shows_5 rfl rfl rfl ?_
  refine x_iload_n 7 C dX0_shows_6 rfl rfl rfl ?_
  refine x_iload_n 8 C dX0_shows_7 rfl rfl rfl ?_
  refine x_iload_n 9 C dX0_shows_8 rfl rfl rfl ?_
  refine x_callUPe (y := yX8_shows) (ow := "FirstSeen$Thing") (x := ⟨"FirstSeen$Walking", "shows", "(III)Z"⟩) 12 C dX0_shows_9 rfl (c_X8_shows (by omega) (by omega) (by omega)) rfl rfl (lt79 (by decide)) rfl tb_3_90 tb_3_91 tb_1_130 tb_1_116 tb_3_84 tb_1_3 tb_3_104 (na := 3) (by decide +kernel) rfl ⟨by decide, by decide⟩ rfl (Nat.le_of_ble_eq_true rfl) rfl (fun r9 => ?_)
  first
    | refine x_ifb_eq 19 15 C dX0_shows_12 rfl rfl (fun h12 => ?_) (fun h12 => ?_)
    | refine x_if_eq 19 15 C dX0_shows_12 rfl rfl (by omega) (fun h12 => ?_) (fun h12 => ?_)
  · refine x_iconst 20 C dX0_shows_19 rfl ?_
    refine x_zret C T dX0_shows_20 (by omega) ?_
    exact PE_i (by unfold b2; split <;> omega) (by omega)
  refine x_iconst 16 C dX0_shows_15 rfl ?_
  refine x_goto 20 C dX0_shows_16 rfl ?_
  refine x_zret C T dX0_shows_20 (by omega) ?_
  exact PE_i (by unfold b2; split <;> omega) (by omega)

set_option maxHeartbeats 4000000 in
set_option maxRecDepth 100000 in
theorem c_X1_shows {l : Launch} {G : Gt} {ρ : Nat → Nat} {tc : Nat} {cl : Nat → Nat} {σ : Sig} {f n g : Int} (hf : 0 ≤ f ∧ f ≤ 9) (hn : 0 ≤ n ∧ n ≤ 9) (hg : 0 ≤ g ∧ g ≤ 9) : MX l yX1_shows cX1_shows 4 (some .boolean) 1 23 G (NN tc) ρ (shp tc cl) [.ref (ρ 26), .int (iZ f), .int (iZ n), .int (iZ g)] σ (PE σ (b2 (f = n ∨ f = 1))) := by
  refine MX_of [some (.ref (ρ 26)), some (.int (iZ f)), some (.int (iZ n)), some (.int (iZ g))] (by decide +kernel) rfl rfl (Nat.le_of_ble_eq_true rfl) ?_
  intro K hKl C T hRng
  subst hKl
  refine x_iload_n 1 C dX1_shows_0 rfl rfl rfl ?_
  refine x_iload_n 2 C dX1_shows_1 rfl rfl rfl ?_
  refine x_icmp_eq 15 5 C dX1_shows_2 rfl rfl (by omega) (by omega) (fun h2 => ?_) (fun h2 => ?_)
  · refine x_iconst 16 C dX1_shows_15 rfl ?_
    refine x_goto 20 C dX1_shows_16 rfl ?_
    refine x_zret C T dX1_shows_20 (by omega) ?_
    exact PE_i (by unfold b2; split <;> omega) (by omega)
  refine x_aload_n 6 C dX1_shows_5 rfl rfl rfl ?_
  refine x_iload_n 7 C dX1_shows_6 rfl rfl rfl ?_
  refine x_iload_n 8 C dX1_shows_7 rfl rfl rfl ?_
  refine x_iload_n 9 C dX1_shows_8 rfl rfl rfl ?_
  refine x_callSUe 12 C dX1_shows_9 rfl (c_X4_shows (by omega) (by omega) (by omega)) rfl (lt79 (by decide)) rfl tb_3_96 tb_6_128 tb_1_137 tb_3_97 tb_1_5 tb_3_98 (na := 3) (by decide +kernel) rfl ⟨by decide, by decide⟩ rfl (Nat.le_of_ble_eq_true rfl) rfl (fun r9 => ?_)
  first
    | refine x_ifb_eq 19 15 C dX1_shows_12 rfl rfl (fun h12 => ?_) (fun h12 => ?_)
    | refine x_if_eq 19 15 C dX1_shows_12 rfl rfl (by omega) (fun h12 => ?_) (fun h12 => ?_)
  · refine x_iconst 20 C dX1_shows_19 rfl ?_
    refine x_zret C T dX1_shows_20 (by omega) ?_
    exact PE_i (by unfold b2; split <;> omega) (by omega)
  refine x_iconst 16 C dX1_shows_15 rfl ?_
  refine x_goto 20 C dX1_shows_16 rfl ?_
  refine x_zret C T dX1_shows_20 (by omega) ?_
  exact PE_i (by unfold b2; split <;> omega) (by omega)
