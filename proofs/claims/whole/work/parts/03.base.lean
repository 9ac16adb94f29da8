/-! numbers: an Int as an int, a long -/
def iZ (z : Int) : Int32 := Int32.ofInt z
def lZ (z : Int) : Int64 := Int64.ofInt z
def wrap (z : Int) : Int := (z + 2147483648) % 4294967296 - 2147483648
theorem iZ_add (x y : Int) : iZ x + iZ y = iZ (x + y) := (Int32.ofInt_add x y).symm
theorem iZ_sub (x y : Int) : iZ x - iZ y = iZ (x - y) := (Int32.ofInt_sub x y).symm
theorem iZ_mul (x y : Int) : iZ x * iZ y = iZ (x * y) := (Int32.ofInt_mul x y).symm
theorem iZ_neg (x : Int) : -iZ x = iZ (-x) := (Int32.ofInt_neg x).symm
theorem iZ_toInt {x : Int} (h : -2147483648 ≤ x ∧ x ≤ 2147483647) : (iZ x).toInt = x := Int32.toInt_ofInt_of_le h.1 (by omega)
theorem iZ_of (x : Int32) : iZ x.toInt = x := Int32.ofInt_toInt x
theorem in32 (x : Int32) : -2147483648 ≤ x.toInt ∧ x.toInt ≤ 2147483647 := by
  have h1 := Int32.le_toInt x
  have h2 := Int32.toInt_lt x
  omega
theorem iZ_lt {x y : Int} (hx : -2147483648 ≤ x ∧ x ≤ 2147483647) (hy : -2147483648 ≤ y ∧ y ≤ 2147483647) : (iZ x < iZ y) = (x < y) := by
  rw [Int32.lt_iff_toInt_lt, iZ_toInt hx, iZ_toInt hy]
theorem iZ_le {x y : Int} (hx : -2147483648 ≤ x ∧ x ≤ 2147483647) (hy : -2147483648 ≤ y ∧ y ≤ 2147483647) : (iZ x ≤ iZ y) = (x ≤ y) := by
  rw [Int32.le_iff_toInt_le, iZ_toInt hx, iZ_toInt hy]
theorem iZ_eq {x y : Int} (hx : -2147483648 ≤ x ∧ x ≤ 2147483647) (hy : -2147483648 ≤ y ∧ y ≤ 2147483647) : (iZ x = iZ y) = (x = y) := by
  refine propext ⟨fun h => ?_, fun h => by rw [h]⟩
  have h1 := congrArg Int32.toInt h
  rwa [iZ_toInt hx, iZ_toInt hy] at h1
theorem iZ_0 : iZ 0 = 0 := rfl
theorem iZ_wrap (x : Int) : iZ (wrap x) = iZ x := by
  have h : (wrap x).bmod (2 ^ 32) = x.bmod (2 ^ 32) := by
    rw [Int.bmod_eq_bmod_iff_bmod_sub_eq_zero]
    have : wrap x - x = (-((x + 2147483648) / 4294967296)) * (2 ^ 32 : Nat) := by unfold wrap; omega
    rw [this, Int.bmod_def, Int.mul_emod_left]
    rfl
  apply Int32.toInt_inj.mp
  unfold iZ
  rw [Int32.toInt_ofInt, Int32.toInt_ofInt]
  exact h
theorem wrap_in (x : Int) : -2147483648 ≤ wrap x ∧ wrap x ≤ 2147483647 := by unfold wrap; omega
theorem wrap_id {x : Int} (h : -2147483648 ≤ x ∧ x ≤ 2147483647) : wrap x = x := by unfold wrap; omega
theorem iZ_nat (n : Nat) : Int32.ofNat n = iZ (n : Int) := by
  unfold iZ; exact Int32.ofInt_eq_ofNat.symm
theorem iZ_clamp {x : Int} (h : 0 ≤ x ∧ x ≤ 2147483647) : (iZ x).toNatClampNeg = x.toNat := by
  show (iZ x).toInt.toNat = x.toNat
  rw [iZ_toInt (by omega)]
theorem iZ_in {x : Int} {n : Nat} (h : 0 ≤ x ∧ x < n) (hn : x ≤ 2147483647) : vp_in (iZ x) n := by
  rw [vp_in_iff, iZ_toInt (by omega)]
  exact h
/-! the world: what stands in which cell -/
abbrev Sig : Type := Nat → Nat → Int
abbrev Shc : Type := Nat × Nat × List Nat × (Nat → Option Nat)
abbrev Gt : Type := va_G × (Nat → ClassId) × (Nat → Nat)
def cA (n : Nat) : Shc := (0, n, [], fun _ => none)
def cJ (n : Nat) : Shc := (1, n, [], fun _ => none)
def cZ (n : Nat) : Shc := (2, n, [], fun _ => none)
def cR (t n : Nat) (f : Nat → Option Nat) : Shc := (t + 3, n, [], f)
def cO (ci : Nat) (fds : List Nat) : Shc := (ci + 10, 0, fds, fun _ => none)
def fV (ρ : Nat → Nat) (σ : Sig) (k j fd : Nat) : Value := match fd with
  | 0 => .int (iZ (σ k j))
  | 1 => .long (lZ (σ (k + 1000) j))
  | 2 => .null
  | l + 3 => .ref (ρ l)
def fL (ρ : Nat → Nat) (σ : Sig) (k : Nat) : Nat → List Nat → List Value
  | _, [] => []
  | j, fd :: t => fV ρ σ k j fd :: fL ρ σ k (j + 1) t
def cE (dA : Nat → ClassId) (ρ : Nat → Nat) (σ : Sig) (k : Nat) (c : Shc) : va_E := match c.1 with
  | 0 => .inl (dA 0, c.2.1, .inl (fun i => iZ (σ k i)))
  | 1 => .inl (dA 1, c.2.1, .inr (.inl (fun i => lZ (σ (k + 1000) i))))
  | 2 => .inl (dA 2, c.2.1, .inl (fun i => iZ (σ k i)))
  | 3 => .inl (dA 3, c.2.1, .inr (.inr (.inr (.inr (fun i => (c.2.2.2 i).map ρ)))))
  | 4 => .inl (dA 4, c.2.1, .inr (.inr (.inr (.inr (fun i => (c.2.2.2 i).map ρ)))))
  | 5 => .inl (dA 5, c.2.1, .inr (.inr (.inr (.inr (fun i => (c.2.2.2 i).map ρ)))))
  | t => .inr (t - 10, fL ρ σ k 0 c.2.2.1)
theorem cE_O {dA : Nat → ClassId} {ρ : Nat → Nat} {σ : Sig} {k ci : Nat} {fds : List Nat} : cE dA ρ σ k (cO ci fds) = .inr (ci, fL ρ σ k 0 fds) := rfl
theorem cE_A {dA : Nat → ClassId} {ρ : Nat → Nat} {σ : Sig} {k n : Nat} : cE dA ρ σ k (cA n) = .inl (dA 0, n, .inl (fun i => iZ (σ k i))) := rfl
theorem cE_J {dA : Nat → ClassId} {ρ : Nat → Nat} {σ : Sig} {k n : Nat} : cE dA ρ σ k (cJ n) = .inl (dA 1, n, .inr (.inl (fun i => lZ (σ (k + 1000) i)))) := rfl
theorem cE_Z {dA : Nat → ClassId} {ρ : Nat → Nat} {σ : Sig} {k n : Nat} : cE dA ρ σ k (cZ n) = .inl (dA 2, n, .inl (fun i => iZ (σ k i))) := rfl
theorem cE_R0 {dA : Nat → ClassId} {ρ : Nat → Nat} {σ : Sig} {k n : Nat} {f : Nat → Option Nat} : cE dA ρ σ k (cR 0 n f) = .inl (dA 3, n, .inr (.inr (.inr (.inr (fun i => (f i).map ρ))))) := rfl
theorem cE_R1 {dA : Nat → ClassId} {ρ : Nat → Nat} {σ : Sig} {k n : Nat} {f : Nat → Option Nat} : cE dA ρ σ k (cR 1 n f) = .inl (dA 4, n, .inr (.inr (.inr (.inr (fun i => (f i).map ρ))))) := rfl
theorem cE_R2 {dA : Nat → ClassId} {ρ : Nat → Nat} {σ : Sig} {k n : Nat} {f : Nat → Option Nat} : cE dA ρ σ k (cR 2 n f) = .inl (dA 5, n, .inr (.inr (.inr (.inr (fun i => (f i).map ρ))))) := rfl
def mkW (dA : Nat → ClassId) (N : Nat) (ρ : Nat → Nat) (sh : Nat → Shc) (σ : Sig) : va_W := (List.range N).map (fun k => (ρ k, cE dA ρ σ k (sh k)))
def AX (N : Nat) (ρ : Nat → Nat) (sz : Nat) : Nat → Prop := fun q => (∃ k, k < N ∧ ρ k = q) ∨ sz ≤ q
def Rng (σ : Sig) : Prop := ∀ r i, r < 1000 → -2147483648 ≤ σ r i ∧ σ r i ≤ 2147483647
def Inj (N : Nat) (ρ : Nat → Nat) : Prop := ∀ i j, i < N → j < N → ρ i = ρ j → i = j
def up (σ : Sig) (r i : Nat) (v : Int) : Sig := fun a b => if a = r then (if b = i then v else σ a b) else σ a b
theorem up_s {σ : Sig} {r i : Nat} {v : Int} : up σ r i v r i = v := by simp [up]
theorem up_r {σ : Sig} {r i a b : Nat} {v : Int} (h : a ≠ r) : up σ r i v a b = σ a b := by simp [up, h]
theorem up_i {σ : Sig} {r i a b : Nat} {v : Int} (h : b ≠ i) : up σ r i v a b = σ a b := by simp [up, h]
theorem up_row {σ : Sig} {r i a : Nat} {v : Int} (h : a ≠ r) : up σ r i v a = σ a := funext fun b => up_r h
theorem Rng_up {σ : Sig} {r i : Nat} {v : Int} (h : Rng σ) (hv : -2147483648 ≤ v ∧ v ≤ 2147483647) : Rng (up σ r i v) := by
  intro a b ha
  unfold up
  split
  · split
    · exact hv
    · exact h a b ha
  · exact h a b ha
theorem Rng_upl {σ : Sig} {r i : Nat} {v : Int} (h : Rng σ) : Rng (up σ (r + 1000) i v) := by
  intro a b ha
  rw [up_r (by omega)]
  exact h a b ha
theorem mkW_at {dA : Nat → ClassId} {N : Nat} {ρ : Nat → Nat} {sh : Nat → Shc} {σ : Sig} {k : Nat} (h : k < N) {c : Shc} (hc : sh k = c) : (mkW dA N ρ sh σ)[k]? = some (ρ k, cE dA ρ σ k c) := by
  subst hc
  unfold mkW
  rw [List.getElem?_map, List.getElem?_range h]
  rfl
theorem mkW_get {dA : Nat → ClassId} {N : Nat} {ρ : Nat → Nat} {sh : Nat → Shc} {σ : Sig} {k : Nat} {q : Nat × va_E} (h : (mkW dA N ρ sh σ)[k]? = some q) : k < N ∧ q = (ρ k, cE dA ρ σ k (sh k)) := by
  unfold mkW at h
  rw [List.getElem?_map] at h
  by_cases hk : k < N
  · rw [List.getElem?_range hk] at h
    exact ⟨hk, (Option.some.inj h).symm⟩
  · rw [List.getElem?_eq_none (by simpa using Nat.le_of_not_lt hk)] at h
    cases h
theorem mkW_D {dA : Nat → ClassId} {N : Nat} {ρ : Nat → Nat} {sh : Nat → Shc} {σ : Sig} {sz : Nat} (h : Inj N ρ) : va_D (AX N ρ sz) (mkW dA N ρ sh σ) := by
  refine ⟨fun i j p q hi hj hpq => ?_, fun k q hk => ?_⟩
  · obtain ⟨h1, rfl⟩ := mkW_get hi
    obtain ⟨h2, rfl⟩ := mkW_get hj
    exact h i j h1 h2 hpq
  · obtain ⟨h1, rfl⟩ := mkW_get hk
    exact Or.inl ⟨k, h1, rfl⟩
/-- another world of which only cell k differs -/
theorem mkW_set {dA : Nat → ClassId} {N : Nat} {ρ : Nat → Nat} {sh : Nat → Shc} {σ σ' : Sig} {k : Nat} {e : va_E} (he : cE dA ρ σ' k (sh k) = e) (ho : ∀ j, j < N → j ≠ k → cE dA ρ σ' j (sh j) = cE dA ρ σ j (sh j)) : (mkW dA N ρ sh σ).set k (ρ k, e) = mkW dA N ρ sh σ' := by
  apply List.ext_getElem?
  intro j
  by_cases hj : j < N
  · rw [mkW_at hj rfl]
    by_cases hjk : j = k
    · subst hjk
      rw [List.getElem?_set_self (by simpa [mkW] using hj), he]
    · rw [List.getElem?_set_ne (Ne.symm hjk), mkW_at hj rfl, ho j hj hjk]
  · rw [List.getElem?_eq_none (by simpa [mkW] using Nat.le_of_not_lt hj), List.getElem?_eq_none (by simpa [mkW] using Nat.le_of_not_lt hj)]
theorem fL_get {ρ : Nat → Nat} {σ : Sig} {k : Nat} : ∀ (fds : List Nat) (b j fd : Nat), fds[j]? = some fd → (fL ρ σ k b fds)[j]? = some (fV ρ σ k (b + j) fd)
  | [], b, j, fd, h => by simp at h
  | x :: t, b, 0, fd, h => by
    simp only [List.getElem?_cons_zero, Option.some.injEq] at h
    subst h
    rfl
  | x :: t, b, j + 1, fd, h => by
    simp only [List.getElem?_cons_succ] at h
    have := fL_get (ρ := ρ) (σ := σ) (k := k) t (b + 1) j fd h
    rw [show b + (j + 1) = b + 1 + j by omega]
    simpa [fL] using this
theorem fL_len {ρ : Nat → Nat} {σ : Sig} {k : Nat} : ∀ (fds : List Nat) (b : Nat), (fL ρ σ k b fds).length = fds.length
  | [], b => rfl
  | x :: t, b => by simp [fL, fL_len t (b + 1)]
theorem fL_ext {ρ : Nat → Nat} {σ σ' : Sig} {k : Nat} : ∀ (fds : List Nat) (b : Nat), (∀ j fd, fds[j]? = some fd → fV ρ σ' k (b + j) fd = fV ρ σ k (b + j) fd) → fL ρ σ' k b fds = fL ρ σ k b fds
  | [], b, _ => rfl
  | x :: t, b, h => by
    have h0 := h 0 x rfl
    have ht := fL_ext (ρ := ρ) (σ := σ) (σ' := σ') (k := k) t (b + 1) (fun j fd hj => by
      have := h (j + 1) fd (by simpa using hj)
      rwa [show b + (j + 1) = b + 1 + j by omega] at this)
    show fV ρ σ' k b x :: _ = _
    rw [ht, show b = b + 0 from rfl, h0]
    rfl
theorem fL_set {ρ : Nat → Nat} {σ σ' : Sig} {k : Nat} {v : Value} : ∀ (fds : List Nat) (b i : Nat), i < fds.length → (∀ j fd, fds[j]? = some fd → j ≠ i → fV ρ σ' k (b + j) fd = fV ρ σ k (b + j) fd) → (∀ fd, fds[i]? = some fd → fV ρ σ' k (b + i) fd = v) → fL ρ σ' k b fds = (fL ρ σ k b fds).set i v
  | [], b, i, hi, _, _ => by simp at hi
  | x :: t, b, 0, _, h, h0 => by
    have ht := fL_ext (ρ := ρ) (σ := σ) (σ' := σ') (k := k) t (b + 1) (fun j fd hj => by
      have := h (j + 1) fd (by simpa using hj) (by omega)
      rwa [show b + (j + 1) = b + 1 + j by omega] at this)
    show fV ρ σ' k b x :: fL ρ σ' k (b + 1) t = _
    rw [ht, show b = b + 0 from rfl, h0 x rfl]
    rfl
  | x :: t, b, i + 1, hi, h, h0 => by
    have hx := h 0 x rfl (by omega)
    have ht := fL_set (ρ := ρ) (σ := σ) (σ' := σ') (k := k) (v := v) t (b + 1) i (by simpa using hi) (fun j fd hj hji => by
      have := h (j + 1) fd (by simpa using hj) (by omega)
      rwa [show b + (j + 1) = b + 1 + j by omega] at this) (fun fd hf => by
      have := h0 fd (by simpa using hf)
      rwa [show b + (i + 1) = b + 1 + i by omega] at this)
    show fV ρ σ' k b x :: fL ρ σ' k (b + 1) t = _
    rw [ht, show b = b + 0 from rfl, hx]
    rfl
theorem cE_row {dA : Nat → ClassId} {ρ : Nat → Nat} {σ σ' : Sig} {k : Nat} {c : Shc} (h : σ' k = σ k) (h2 : σ' (k + 1000) = σ (k + 1000)) : cE dA ρ σ' k c = cE dA ρ σ k c := by
  unfold cE
  rw [h, h2]
  split
  all_goals (first | rfl | skip)
  rw [fL_ext (ρ := ρ) (σ := σ) (σ' := σ') (k := k) c.2.2.1 0 (fun j fd _ => by unfold fV; split <;> simp [h, h2])]
/-! locals, as a list with holes -/
def dn : Nat → List (Option Value) → List (Nat × Value)
  | _, [] => []
  | i, none :: t => dn (i + 1) t
  | i, some v :: t => (i, v) :: dn (i + 1) t
theorem dn_mem : ∀ (lv : List (Option Value)) (i k : Nat) (v : Value), (k, v) ∈ dn i lv ↔ ∃ j, k = i + j ∧ lv[j]? = some (some v)
  | [], i, k, v => by simp [dn]
  | none :: t, i, k, v => by
    rw [dn, dn_mem t (i + 1) k v]
    constructor
    · rintro ⟨j, h1, h2⟩
      exact ⟨j + 1, by omega, by simpa using h2⟩
    · rintro ⟨j, h1, h2⟩
      cases j with
      | zero => simp at h2
      | succ j => exact ⟨j, by omega, by simpa using h2⟩
  | some w :: t, i, k, v => by
    rw [dn, List.mem_cons, dn_mem t (i + 1) k v]
    constructor
    · rintro (h | ⟨j, h1, h2⟩)
      · cases h
        exact ⟨0, by omega, rfl⟩
      · exact ⟨j + 1, by omega, by simpa using h2⟩
    · rintro ⟨j, h1, h2⟩
      cases j with
      | zero =>
        simp only [List.getElem?_cons_zero, Option.some.injEq] at h2
        left; rw [h2, h1]; rfl
      | succ j => exact Or.inr ⟨j, by omega, by simpa using h2⟩
def np : Option Value → Bool
  | none => true
  | some v => v.category == 1
theorem dn_at {ls : Array Slot} {n : Nat} {lv : List (Option Value)} (h : lv_has ls n (dn 0 lv)) {k : Nat} {v : Value} (hk : lv[k]? = some (some v)) : ls[k]? = some (.val v) := h.2.2 (k, v) ((dn_mem lv 0 k v).mpr ⟨k, by omega, hk⟩)
theorem dn_set {ls : Array Slot} {n k : Nat} {v : Value} {lv lv' : List (Option Value)} (h : lv_has ls n ((k, v) :: (dn 0 lv).filter (fun q => !(q.1 == k) && !(q.1 + 1 == k && q.2.category == 2)))) (hv : lv.set k (some v) = lv') (hp : ∀ j, j + 1 = k → ∃ a, lv[j]? = some a ∧ np a = true) : lv_has ls n (dn 0 lv') := by
  refine ⟨h.1, h.2.1, fun q hq => h.2.2 q ?_⟩
  obtain ⟨a, w⟩ := q
  obtain ⟨j, h1, h2⟩ := (dn_mem lv' 0 a w).mp hq
  have hj : a = j := by omega
  subst hj
  subst hv
  by_cases hk : a = k
  · subst hk
    have hl : a < lv.length := by
      have := (List.getElem?_eq_some_iff.mp h2).1
      simpa using this
    rw [List.getElem?_set_self hl] at h2
    simp only [Option.some.injEq] at h2
    rw [h2]
    exact List.mem_cons_self
  · rw [List.getElem?_set_ne (Ne.symm hk)] at h2
    refine List.mem_cons_of_mem _ (List.mem_filter.mpr ⟨(dn_mem lv 0 a w).mpr ⟨a, by omega, h2⟩, ?_⟩)
    by_cases hp1 : a + 1 = k
    · obtain ⟨x, hx, hn⟩ := hp a hp1
      rw [h2] at hx
      obtain rfl := Option.some.inj hx
      have : w.category = 1 := by simpa [np] using hn
      simp [hk, this]
    · simp [hk, hp1]
theorem dn_setl {ls : Array Slot} {n k : Nat} {v : Value} {lv lv' : List (Option Value)} (h : lv_has ls n ((k, v) :: (dn 0 lv).filter (fun q => !(q.1 == k) && (!(q.1 == k + 1) && !(q.1 + 1 == k && q.2.category == 2))))) (hv : (lv.set k (some v)).set (k + 1) none = lv') (hp : ∀ j, j + 1 = k → ∃ a, lv[j]? = some a ∧ np a = true) : lv_has ls n (dn 0 lv') := by
  refine ⟨h.1, h.2.1, fun q hq => h.2.2 q ?_⟩
  obtain ⟨a, w⟩ := q
  obtain ⟨j, h1, h2⟩ := (dn_mem lv' 0 a w).mp hq
  have hj : a = j := by omega
  subst hj
  subst hv
  have hl : a < lv.length := by
    have := (List.getElem?_eq_some_iff.mp h2).1
    simpa using this
  by_cases hk1 : a = k + 1
  · subst hk1
    rw [List.getElem?_set_self (by simpa using hl)] at h2
    cases h2
  · rw [List.getElem?_set_ne (Ne.symm hk1)] at h2
    by_cases hk : a = k
    · subst hk
      rw [List.getElem?_set_self hl] at h2
      simp only [Option.some.injEq] at h2
      rw [h2]
      exact List.mem_cons_self
    · rw [List.getElem?_set_ne (Ne.symm hk)] at h2
      refine List.mem_cons_of_mem _ (List.mem_filter.mpr ⟨(dn_mem lv 0 a w).mpr ⟨a, by omega, h2⟩, ?_⟩)
      by_cases hp1 : a + 1 = k
      · obtain ⟨x, hx, hn⟩ := hp a hp1
        rw [h2] at hx
        obtain rfl := Option.some.inj hx
        have : w.category = 1 := by simpa [np] using hn
        simp [hk, hk1, this]
      · simp [hk, hp1, hk1]
