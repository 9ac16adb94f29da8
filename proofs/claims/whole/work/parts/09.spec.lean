/-- the town's numbers are within their bounds -/
def TI (σ : Sig) : Prop := (0 ≤ σ 1 1 ∧ σ 1 1 ≤ 9) ∧ (0 ≤ σ 1 2 ∧ σ 1 2 ≤ 5) ∧ (0 ≤ σ 1 3 ∧ σ 1 3 ≤ 6) ∧ (0 ≤ σ 1 8 ∧ σ 1 8 ≤ 5) ∧ ∀ i : Nat, (0 ≤ σ 2 i ∧ σ 2 i ≤ 9) ∧ (0 ≤ σ 3 i ∧ σ 3 i ≤ 35) ∧ (0 ≤ σ 4 i ∧ σ 4 i ≤ 99) ∧ (0 ≤ σ 5 i ∧ σ 5 i ≤ 9) ∧ (0 ≤ σ 6 i ∧ σ 6 i ≤ 5) ∧ (0 ≤ σ 7 i ∧ σ 7 i ≤ 35) ∧ (0 ≤ σ 8 i ∧ σ 8 i ≤ 3) ∧ (0 ≤ σ 9 i ∧ σ 9 i ≤ 23) ∧ (0 ≤ σ 10 i ∧ σ 10 i ≤ 99)
/-- where a thing is: kind, home, number, minute -/
def whereF (k h n m : Int) : Int := if k = 1 ∨ (k = 3 ∧ ¬ m % 2 = 1) then h / 6 * 6 + (h % 6 + m / (n + 1)) % 6 else h
/-- whether it shows: kind, number, fog, far -/
def showsF (k n f far : Int) : Bool := if k = 5 then decide (f < 9) else if k = 2 then decide (far = 1) else if k = 4 then decide (far = n ∨ far = 1) else if k = 3 then decide (far ≠ 1 ∧ far ≤ 9 - f) else decide (far ≤ 9 - f)
def worthK (k n v far : Int) : Int := if k = 1 then v + far else if k = 3 then 2 * (v + far) else if k = 2 then v.tdiv 2 else if k = 4 then v.tdiv 2 + n else if k = 5 then v - far else v
def worthF (k n v far : Int) : Int := if worthK k n v far < 0 then 0 else worthK k n v far
theorem whereF_in {k h n m : Int} (hh : 0 ≤ h ∧ h ≤ 35) (hn : 0 ≤ n) (hm : 0 ≤ m ∧ m ≤ 23) : 0 ≤ whereF k h n m ∧ whereF k h n m ≤ 35 := by
  unfold whereF
  split
  · have := div_in hm.1 (show 0 < n + 1 by omega)
    have h2 := Int.emod_nonneg (h % 6 + m / (n + 1)) (show (6 : Int) ≠ 0 by omega)
    have h3 := Int.emod_lt_of_pos (h % 6 + m / (n + 1)) (show (0 : Int) < 6 by omega)
    omega
  · exact hh
