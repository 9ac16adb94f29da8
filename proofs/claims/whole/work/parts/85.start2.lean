/-! the two made: their cells under the names of the contracts; both halves agree -/
def pi (k : Nat) : Nat := if k ≤ 31 then k else if k ≤ 41 then k + 3 else if k = 42 then 45 else if k ≤ 46 then 46 + 2 * (k - 43) else if k ≤ 50 then 47 + 2 * (k - 47) else if k ≤ 78 then k + 3 else if k ≤ 81 then 32 + (k - 79) else k
theorem pi_lt : ∀ k, k < 82 → pi k < 82 := by decide +kernel
theorem pi_inj : ∀ i, i < 82 → ∀ j, j < 82 → pi i = pi j → i = j := by decide +kernel
theorem pi_in {k : Nat} (h : k < 1000) : pi k < 1000 := by
  by_cases hk : k < 82
  · have := pi_lt k hk; omega
  · unfold pi
    rw [if_neg (by omega), if_neg (by omega), if_neg (by omega), if_neg (by omega), if_neg (by omega), if_neg (by omega), if_neg (by omega)]
    exact h
def σπ (σ : Sig) : Sig := fun a => if a < 1000 then σ (pi a) else σ (pi (a - 1000) + 1000)
theorem σπ_low {σ : Sig} {a : Nat} (h : a < 1000) : σπ σ a = σ (pi a) := if_pos h
theorem σπ_high {σ : Sig} {a : Nat} : σπ σ (a + 1000) = σ (pi a + 1000) := by
  unfold σπ
  rw [if_neg (by omega), show a + 1000 - 1000 = a by omega]
def sh00 : Nat → Shc := fun _ => cA 0
def shB : Nat → Shc := su (shA44 (su sh00 0 (cO 11 [2, 2, 0, 2, 2, 2, 0, 2, 2, 0, 0, 0]))) 54 (cO 12 [0, 2, 2, 0, 0, 2, 0, 2, 0, 2, 2, 2, 2, 0, 2, 2, 2, 2, 0, 0, 0, 0, 0, 0, 0, 0, 0, 0, 0, 0, 1, 0, 0, 0, 2, 2, 2, 2, 2, 2, 2, 0, 0, 0, 2, 2, 2, 2, 0, 0, 0, 0, 2, 2, 2, 2])
def shF : Nat → Shc := sh_X12_init shB 55 54
def cl0 : Nat → Nat := fun _ => 5
set_option maxHeartbeats 4000000 in
set_option maxRecDepth 100000 in
theorem shF_row : ∀ k, k < 82 → k ≠ 21 → k ≠ 31 → k ≠ 42 → ∀ {dA : Nat → ClassId} {ρ : Nat → Nat} {σ : Sig}, cE dA (fun k => ρ (pi k)) (σπ σ) k (shq 1 cl0 k) = cE dA ρ σ (pi k) (shF (pi k)) := by
  intro k hk h1 h2 h3 dA ρ σ
  match k, hk, h1, h2, h3 with
  | 0, _, _, _, _ => rfl
  | 1, _, _, _, _ => rfl
  | 2, _, _, _, _ => rfl
  | 3, _, _, _, _ => rfl
  | 4, _, _, _, _ => rfl
  | 5, _, _, _, _ => rfl
  | 6, _, _, _, _ => rfl
  | 7, _, _, _, _ => rfl
  | 8, _, _, _, _ => rfl
  | 9, _, _, _, _ => rfl
  | 10, _, _, _, _ => rfl
  | 11, _, _, _, _ => rfl
  | 12, _, _, _, _ => rfl
  | 13, _, _, _, _ => rfl
  | 14, _, _, _, _ => rfl
  | 15, _, _, _, _ => rfl
  | 16, _, _, _, _ => rfl
  | 17, _, _, _, _ => rfl
  | 18, _, _, _, _ => rfl
  | 19, _, _, _, _ => rfl
  | 20, _, _, _, _ => rfl
  | 21, _, h1, h2, h3 => exact absurd rfl h1
  | 22, _, _, _, _ => rfl
  | 23, _, _, _, _ => rfl
  | 24, _, _, _, _ => rfl
  | 25, _, _, _, _ => rfl
  | 26, _, _, _, _ => rfl
  | 27, _, _, _, _ => rfl
  | 28, _, _, _, _ => rfl
  | 29, _, _, _, _ => rfl
  | 30, _, _, _, _ => rfl
  | 31, _, h1, h2, h3 => exact absurd rfl h2
  | 32, _, _, _, _ => rfl
  | 33, _, _, _, _ => rfl
  | 34, _, _, _, _ => rfl
  | 35, _, _, _, _ => rfl
  | 36, _, _, _, _ => rfl
  | 37, _, _, _, _ => rfl
  | 38, _, _, _, _ => rfl
  | 39, _, _, _, _ => rfl
  | 40, _, _, _, _ => rfl
  | 41, _, _, _, _ => rfl
  | 42, _, h1, h2, h3 => exact absurd rfl h3
  | 43, _, _, _, _ => rfl
  | 44, _, _, _, _ => rfl
  | 45, _, _, _, _ => rfl
  | 46, _, _, _, _ => rfl
  | 47, _, _, _, _ => rfl
  | 48, _, _, _, _ => rfl
  | 49, _, _, _, _ => rfl
  | 50, _, _, _, _ => rfl
  | 51, _, _, _, _ => rfl
  | 52, _, _, _, _ => rfl
  | 53, _, _, _, _ => rfl
  | 54, _, _, _, _ => rfl
  | 55, _, _, _, _ => rfl
  | 56, _, _, _, _ => rfl
  | 57, _, _, _, _ => rfl
  | 58, _, _, _, _ => rfl
  | 59, _, _, _, _ => rfl
  | 60, _, _, _, _ => rfl
  | 61, _, _, _, _ => rfl
  | 62, _, _, _, _ => rfl
  | 63, _, _, _, _ => rfl
  | 64, _, _, _, _ => rfl
  | 65, _, _, _, _ => rfl
  | 66, _, _, _, _ => rfl
  | 67, _, _, _, _ => rfl
  | 68, _, _, _, _ => rfl
  | 69, _, _, _, _ => rfl
  | 70, _, _, _, _ => rfl
  | 71, _, _, _, _ => rfl
  | 72, _, _, _, _ => rfl
  | 73, _, _, _, _ => rfl
  | 74, _, _, _, _ => rfl
  | 75, _, _, _, _ => rfl
  | 76, _, _, _, _ => rfl
  | 77, _, _, _, _ => rfl
  | 78, _, _, _, _ => rfl
  | 79, _, _, _, _ => rfl
  | 80, _, _, _, _ => rfl
  | 81, _, _, _, _ => rfl
  | k + 82, h, _, _, _ => exact absurd h (by omega)
theorem shF_21 : shF 21 = cR 0 6 (va_up (va_up (va_up (va_up (va_up (va_up (fun _ => none) (0 : Int).toNat (some 22)) (1 : Int).toNat (some 23)) (2 : Int).toNat (some 24)) (3 : Int).toNat (some 25)) (4 : Int).toNat (some 26)) (5 : Int).toNat (some 27)) := rfl
theorem shF_31 : shF 31 = cR 1 6 (va_up (fun _ => none) (0 : Int).toNat (some 32)) := rfl
theorem shF_45 : shF 45 = cR 2 4 (va_up (va_up (va_up (va_up (fun _ => none) (0 : Int).toNat (some 46)) ((1 : Int) : Int).toNat (some 48)) ((2 : Int) : Int).toNat (some 50)) ((3 : Int) : Int).toNat (some 52)) := rfl
theorem cell_ext {cA : ClassId} {n q : Nat} {f g : Nat → Option Nat} {H : Heap} (h : ∀ j, j < n → g j = f j) (hv : H[q]? = some (vp_cell cA (n, .inr (.inr (.inr (.inr f)))))) : H[q]? = some (vp_cell cA (n, .inr (.inr (.inr (.inr g))))) := by
  rw [hv]; exact congrArg some (vp_cg (fun j hj => (h j hj).symm))
set_option maxHeartbeats 4000000 in
theorem P_pi {D : va_G} {dA : Nat → ClassId} {ρ : Nat → Nat} {σ : Sig} {H : Heap} (hP : va_P D vwC (mkW dA 82 ρ shF σ) H) : va_P D vwC (mkW dA 82 (fun k => ρ (pi k)) (shq 1 cl0) (σπ σ)) H := by
  refine P_to (fun k hk => ⟨pi k, pi_lt k hk, fun hv => ?_⟩) hP
  by_cases h1 : k = 21
  · subst h1
    have hv : va_at D vwC (ρ 21, cE dA ρ σ 21 (shF 21)) H := hv
    rw [shF_21] at hv
    show H[ρ 21]? = some (vp_cell (dA 3) (6, .inr (.inr (.inr (.inr (fun i => (f21 i).map (fun k => ρ (pi k))))))))
    refine cell_ext (fun j hj => ?_) hv
    match j, hj with
    | 0, _ => rfl
    | 1, _ => rfl
    | 2, _ => rfl
    | 3, _ => rfl
    | 4, _ => rfl
    | 5, _ => rfl
  · by_cases h2 : k = 31
    · subst h2
      have hv : va_at D vwC (ρ 31, cE dA ρ σ 31 (shF 31)) H := hv
      rw [shF_31] at hv
      show H[ρ 31]? = some (vp_cell (dA 4) (6, .inr (.inr (.inr (.inr (fun i => ((if i < 1 then some (79 + 3 * i) else none : Option Nat)).map (fun k => ρ (pi k))))))))
      refine cell_ext (fun j hj => ?_) hv
      match j, hj with
      | 0, _ => rfl
      | 1, _ => rfl
      | 2, _ => rfl
      | 3, _ => rfl
      | 4, _ => rfl
      | 5, _ => rfl
    · by_cases h3 : k = 42
      · subst h3
        have hv : va_at D vwC (ρ 45, cE dA ρ σ 45 (shF 45)) H := hv
        rw [shF_45] at hv
        show H[ρ 45]? = some (vp_cell (dA 5) (4, .inr (.inr (.inr (.inr (fun i => (f42 i).map (fun k => ρ (pi k))))))))
        refine cell_ext (fun j hj => ?_) hv
        match j, hj with
        | 0, _ => rfl
        | 1, _ => rfl
        | 2, _ => rfl
        | 3, _ => rfl
      · show va_at D vwC (ρ (pi k), cE dA (fun k => ρ (pi k)) (σπ σ) k (shq 1 cl0 k)) H
        rw [shF_row k hk h1 h2 h3]
        exact hv
section LPI
variable {K : Mk} {G : Gt} {ρ ρ0 : Nat → Nat} {σ : Sig} {own : String} {cc : ByteArray} {nL fr lo a bb pc : Nat} {T : Mk → Prop} {lv : List (Option Value)} {st : List Value} {sh : Nat → Shc}
theorem Gr_pi {s : Nat} (h : Gr 0 82 ρ0 ρ s) : Gr 0 82 ρ0 (fun k => ρ (pi k)) s := by
  obtain ⟨h1, h2, h3, h4, h5⟩ := h
  exact ⟨h1, h2, fun k hk => absurd hk (by omega), fun k _ hk => h4 _ (by omega) (pi_lt k hk), fun i j hi hj e => pi_inj i hi j hj (h5 _ _ (pi_lt i hi) (pi_lt j hj) e)⟩
theorem AL_pi (A : AL K G own cc nL fr lo T 0 ρ0 82 ρ sh a bb) : AL K G own cc nL fr lo T 0 ρ0 82 (fun k => ρ (pi k)) (shq 1 cl0) a bb := by
  obtain ⟨hC, hT, hTk, hrm, hgr, hwf⟩ := A
  obtain ⟨p, l, e, R, s, m, args, below, meth, c, cells, slots, Q⟩ := K
  obtain ⟨hx, hb, hml, hown, hts, hlk, hK, hI, hO, hfr, hlo, hce, hsl, hN2⟩ := hC
  have hg : Gr 0 82 ρ0 (fun k => ρ (pi k)) s.heap.size := Gr_pi hgr
  have eA : AX 82 (fun k => ρ (pi k)) s.heap.size = AX 82 ρ s.heap.size := (Gr_AX hg).trans (Gr_AX hgr).symm
  exact ⟨⟨hx, hb, hml, hown, hts, hlk, hK, hg.2.2.2.2, by rw [eA]; exact hO, hfr, hlo, hce, hsl, hN2⟩, hT, hTk, hrm, hg, Wf_shq (tc := 1)⟩
theorem Ex_pi (A : AL K G own cc nL fr lo T 0 ρ0 82 ρ sh a bb) (k : Ex K G 82 (fun k => ρ (pi k)) (shq 1 cl0) pc lv st (σπ σ)) : Ex K G 82 ρ shF pc lv st σ := by
  obtain ⟨hC, hT, hTk, hrm, hgr, hwf⟩ := A
  obtain ⟨p, l, e, R, s, m, args, below, meth, c, cells, slots, Q⟩ := K
  intro hR H locs ls hP hS hl
  have eA : AX 82 (fun k => ρ (pi k)) s.heap.size = AX 82 ρ s.heap.size := (Gr_AX (Gr_pi hgr)).trans (Gr_AX hgr).symm
  refine k (fun r i hr => ?_) H locs ls (P_pi hP) (by rw [eA]; exact hS) hl
  rw [σπ_low hr]
  exact hR _ i (pi_in hr)
end LPI
theorem txt0_in : ∀ i, i < 40 → 0 ≤ txt0.getD i 0 ∧ txt0.getD i 0 ≤ 255 := by decide +kernel
theorem txt0_p : pText (fun i => txt0.getD i 0) 40 = .inl ([1], [0], [23, -2, -13]) := by decide +kernel
/-- both halves, just made -/
theorem RR_0 {σ1 σ2 : Sig} (f : ∀ a b, a ≠ 28 → a ≠ 29 → a ≠ 30 → a ≠ 32 → a ≠ 33 → ¬ (a = 0 ∧ b = 6) → ¬ ((a = 46 ∨ a = 48 ∨ a = 50 ∨ a = 52) ∧ b = 1) → σ1 a b = 0) (f28 : σ1 28 1 = 0) (f06 : σ1 0 6 = 1) (f32 : σ1 32 1 = 1) (f322 : σ1 32 2 = 2) (f33 : ∀ i x, ([1, 0, 23, -2, -13] : List Int)[i]? = some x → σ1 33 i = x) (fs : σ1 46 1 = -1 ∧ σ1 48 1 = -1 ∧ σ1 50 1 = -1 ∧ σ1 52 1 = -1) (g : ∀ q j, ¬ (q = 55 ∧ j < 40) → σ2 q j = (up (up (up σ1 54 48 (-1)) (55 + 1) 0 40) 54 3 1) q j) (gt : ∀ i, i < 40 → σ2 55 i = txt0.getD i 0) : RR (fun _ => ([1], [0], [23, -2, -13])) 1 cl0 (σπ σ2) := by
  have c : ∀ a b, a < 54 ∨ 56 < a → σ2 a b = σ1 a b := fun a b h => by rw [g a b (by omega), up_r (by omega), up_r (by omega), up_r (by omega)]
  have z : ∀ a b, a ≠ 28 → a ≠ 29 → a ≠ 30 → a ≠ 32 → a ≠ 33 → a < 54 ∨ 56 < a → ¬ (a = 0 ∧ b = 6) → ¬ ((a = 46 ∨ a = 48 ∨ a = 50 ∨ a = 52) ∧ b = 1) → σ2 a b = 0 := fun a b h1 h2 h3 h4 h5 h6 h7 h8 => by rw [c a b h6]; exact f a b h1 h2 h3 h4 h5 h7 h8
  have z54 : ∀ b, b ≠ 48 → b ≠ 3 → σ2 54 b = 0 := fun b h1 h2 => by rw [g 54 b (by omega), up_i h2, up_r (by omega), up_i h1]; exact f 54 b (by omega) (by omega) (by omega) (by omega) (by omega) (by omega) (by omega)
  have v3 : σ2 54 3 = 1 := by rw [g 54 3 (by omega), up_s]
  have v48 : σ2 54 48 = -1 := by rw [g 54 48 (by omega), up_i (by omega), up_r (by omega), up_s]
  have v56 : σ2 56 0 = 40 := by rw [g 56 0 (by omega), up_r (by omega), up_s]
  -- rows of the names
  have r1 : ∀ a b, 1 ≤ a → a ≤ 20 → σπ σ2 a b = 0 := fun a b h1 h2 => by
    rw [σπ_low (by omega), show pi a = a from if_pos (by omega)]
    exact z a b (by omega) (by omega) (by omega) (by omega) (by omega) (by omega) (by omega) (by omega)
  have r0 : ∀ b, σπ σ2 0 b = σ2 0 b := fun b => rfl
  have r51 : ∀ b, σπ σ2 51 b = σ2 54 b := fun b => rfl
  have r55 : ∀ a b, 54 ≤ a → a ≤ 78 → σπ σ2 a b = 0 := fun a b h1 h2 => by
    rw [σπ_low (by omega), show pi a = a + 3 from by unfold pi; rw [if_neg (by omega), if_neg (by omega), if_neg (by omega), if_neg (by omega), if_neg (by omega), if_pos (by omega)]]
    exact z (a + 3) b (by omega) (by omega) (by omega) (by omega) (by omega) (by omega) (by omega) (by omega)
  have hTI : TI (σπ σ2) := by
    unfold TI
    have e : ∀ a b, 1 ≤ a → a ≤ 10 → σπ σ2 a b = 0 := fun a b h1 h2 => r1 a b h1 (by omega)
    simp only [e 1 1 (by omega) (by omega), e 1 2 (by omega) (by omega), e 1 3 (by omega) (by omega), e 1 8 (by omega) (by omega)]
    refine ⟨by omega, by omega, by omega, by omega, fun i => ?_⟩
    rw [e 2 i (by omega) (by omega), e 3 i (by omega) (by omega), e 4 i (by omega) (by omega), e 5 i (by omega) (by omega), e 6 i (by omega) (by omega), e 7 i (by omega) (by omega), e 8 i (by omega) (by omega), e 9 i (by omega) (by omega), e 10 i (by omega) (by omega)]
    omega
  have e51 : ∀ b, b ≠ 48 → b ≠ 3 → σπ σ2 51 b = 0 := fun b h1 h2 => by rw [r51]; exact z54 b h1 h2
  have hMI : MI (σπ σ2) := by
    unfold MI
    rw [e51 8 (by omega) (by omega), e51 4 (by omega) (by omega), e51 13 (by omega) (by omega), e51 18 (by omega) (by omega)]
    refine ⟨by omega, by omega, by omega, by omega, fun i => ?_⟩
    rw [r55 55 i (by omega) (by omega), r55 56 i (by omega) (by omega), r55 57 i (by omega) (by omega), r55 58 i (by omega) (by omega), r55 59 i (by omega) (by omega), r55 60 i (by omega) (by omega), r55 61 i (by omega) (by omega), r55 62 i (by omega) (by omega), r55 63 i (by omega) (by omega)]
    omega
  have hC : HC (σπ σ2) (fun _ => ([1], [0], [23, -2, -13])) 1 cl0 := by
    refine ⟨by omega, fun t ht => ?_⟩
    obtain rfl : t = 0 := by omega
    obtain ⟨w1, w2, w3, _⟩ := pText_WL txt0_p
    refine ⟨?_, ?_, rfl, by decide, fun i x hx => ?_, w1, w2, w3⟩
    · show σ2 32 1 = _
      rw [c 32 1 (by omega), f32]; rfl
    · show σ2 32 2 = _
      rw [c 32 2 (by omega), f322]; rfl
    · show σ2 33 i = x
      rw [c 33 i (by omega)]
      exact f33 i x hx
  have hM : HM (σπ σ2) (fun _ => ([1], [0], [23, -2, -13])) 1 := by
    refine ⟨by omega, fun t ht => ?_⟩
    obtain rfl : t = 0 := by omega
    have e : ∀ i, i < 40 → σπ σ2 52 (160 * 0 + i) = txt0.getD i 0 := fun i hi => by
      rw [show 160 * 0 + i = i by omega]
      exact gt i hi
    refine ⟨40, v56, by omega, fun i hi => by rw [e i hi]; exact txt0_in i hi, ?_⟩
    rw [pText_cn e]
    exact txt0_p
  have hT : cT (σπ σ2) = cM (σπ σ2) := by
    funext a b
    match a with
    | 0 => rfl
    | 1 =>
      show (if b = 1 ∨ b = 2 ∨ b = 3 ∨ b = 8 then σπ σ2 1 b else 0) = (if b = 1 ∨ b = 2 ∨ b = 3 ∨ b = 8 then mT (σπ σ2) 1 b else 0)
      split
      · rename_i hb
        rw [r1 1 b (by omega) (by omega)]
        rcases hb with rfl | rfl | rfl | rfl
        · exact (e51 8 (by omega) (by omega)).symm
        · exact (e51 4 (by omega) (by omega)).symm
        · exact (e51 13 (by omega) (by omega)).symm
        · exact (e51 18 (by omega) (by omega)).symm
      · rfl
    | 2 => exact (r1 2 b (by omega) (by omega)).trans (r55 55 b (by omega) (by omega)).symm
    | 3 => exact (r1 3 b (by omega) (by omega)).trans (r55 57 b (by omega) (by omega)).symm
    | 4 => exact (r1 4 b (by omega) (by omega)).trans (r55 58 b (by omega) (by omega)).symm
    | 5 => exact (r1 5 b (by omega) (by omega)).trans (r55 59 b (by omega) (by omega)).symm
    | 6 =>
      show (if (b : Int) < σπ σ2 1 3 then σπ σ2 6 b else 0) = (if (b : Int) < σπ σ2 51 13 then σπ σ2 56 b else 0)
      rw [r1 1 3 (by omega) (by omega), e51 13 (by omega) (by omega), if_neg (by omega), if_neg (by omega)]
    | 7 => exact (r1 7 b (by omega) (by omega)).trans (r55 60 b (by omega) (by omega)).symm
    | 8 => exact (r1 8 b (by omega) (by omega)).trans (r55 61 b (by omega) (by omega)).symm
    | 9 => exact (r1 9 b (by omega) (by omega)).trans (r55 62 b (by omega) (by omega)).symm
    | 10 =>
      show (if (b : Int) < σπ σ2 1 8 then σπ σ2 10 b else 0) = (if (b : Int) < σπ σ2 51 18 then σπ σ2 63 b else 0)
      rw [r1 1 8 (by omega) (by omega), e51 18 (by omega) (by omega), if_neg (by omega), if_neg (by omega)]
    | n + 11 => rfl
  have hKV : KV (fun _ => ([1], [0], [23, -2, -13])) 1 (σπ σ2) := fun p _ => Or.inl (z 1067 p (by omega) (by omega) (by omega) (by omega) (by omega) (by omega) (by omega) (by omega))
  have sh1 : ∀ i, i < 4 → σπ σ2 (43 + i) 1 = -1 ∧ σπ σ2 (43 + i) 2 = 0 := fun i hi => by
    match i, hi with
    | 0, _ => exact ⟨(c 46 1 (by omega)).trans fs.1, z 46 2 (by omega) (by omega) (by omega) (by omega) (by omega) (by omega) (by omega) (by omega)⟩
    | 1, _ => exact ⟨(c 48 1 (by omega)).trans fs.2.1, z 48 2 (by omega) (by omega) (by omega) (by omega) (by omega) (by omega) (by omega) (by omega)⟩
    | 2, _ => exact ⟨(c 50 1 (by omega)).trans fs.2.2.1, z 50 2 (by omega) (by omega) (by omega) (by omega) (by omega) (by omega) (by omega) (by omega)⟩
    | 3, _ => exact ⟨(c 52 1 (by omega)).trans fs.2.2.2, z 52 2 (by omega) (by omega) (by omega) (by omega) (by omega) (by omega) (by omega) (by omega)⟩
  refine ⟨⟨hTI, hC, by rw [r1 1 2 (by omega) (by omega)]; decide⟩, ⟨hMI, hM, by rw [e51 4 (by omega) (by omega)]; decide, hKV⟩, hT, ⟨(c 0 6 (by omega)).trans f06, v3, Nat.le_refl _⟩, ⟨0, (c 28 1 (by omega)).trans f28, e51 6 (by omega) (by omega), by omega, fun i hi => absurd hi (by omega)⟩, ⟨fun i hi => ?_, fun i hi => ?_, fun i hi => Or.inl ⟨(sh1 i hi).1, r55 75 i (by omega) (by omega)⟩⟩, Or.inl ⟨z 0 2 (by omega) (by omega) (by omega) (by omega) (by omega) (by omega) (by omega) (by omega), v48⟩⟩
  · rw [(sh1 i hi).1, (sh1 i hi).2]; omega
  · rw [r55 75 i (by omega) (by omega), r55 76 i (by omega) (by omega)]
    exact ⟨Or.inl rfl, by omega, fun h => absurd h (by decide)⟩