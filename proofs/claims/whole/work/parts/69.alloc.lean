/-! worlds that grow: a shape that is set, a machine that has made more cells -/
def su (sh : Nat → Shc) (k : Nat) (c : Shc) : Nat → Shc := fun j => if j = k then c else sh j
theorem su_s {sh : Nat → Shc} {k : Nat} {c : Shc} : su sh k c k = c := if_pos rfl
theorem su_ne {sh : Nat → Shc} {k j : Nat} {c : Shc} (h : j ≠ k) : su sh k c j = sh j := if_neg h
def kb (K : Mk) (a b : Nat) : Mk := match K with
  | (p, l, e, R, s, m, args, below, meth, c, cells, slots, Q) => (p, l, e, R, s, m, args, below, meth, c, cells + a, slots + b, Q)
theorem kb_l {K : Mk} {a b : Nat} : (kb K a b).2.1 = K.2.1 := rfl
/-- so much room is left -/
def Rm (K : Mk) (a b : Nat) : Prop := match K with
  | (_, _, _, R, _, _, _, _, _, _, cells, slots, _) => cells + a ≤ R.cells ∧ slots + b ≤ R.slots
def Ci (K : Mk) : Prop := match K with
  | (_, _, _, _, _, _, _, _, meth, _, _, _, _) => meth.name = "<init>"
/-- the world has grown: the old cells are where they were, the new ones come from sz on -/
def Gr (N N' : Nat) (ρ ρ' : Nat → Nat) (sz : Nat) : Prop := N ≤ N' ∧ N' ≤ 1000 ∧ (∀ k, k < N → ρ' k = ρ k) ∧ (∀ k, N ≤ k → k < N' → sz ≤ ρ' k) ∧ Inj N' ρ'
theorem Gr_AX {N N' : Nat} {ρ ρ' : Nat → Nat} {sz : Nat} (h : Gr N N' ρ ρ' sz) : AX N' ρ' sz = AX N ρ sz := by
  obtain ⟨h1, h2, h3, h4, h5⟩ := h
  funext q
  refine propext ⟨fun hq => ?_, fun hq => ?_⟩
  · rcases hq with ⟨k, hk, hkq⟩ | hq
    · by_cases hkN : k < N
      · exact Or.inl ⟨k, hkN, by rw [← h3 k hkN]; exact hkq⟩
      · exact Or.inr (by rw [← hkq]; exact h4 k (by omega) hk)
    · exact Or.inr hq
  · rcases hq with ⟨k, hk, hkq⟩ | hq
    · exact Or.inl ⟨k, by omega, by rw [h3 k hk]; exact hkq⟩
    · exact Or.inr hq
theorem Gr_refl {N : Nat} {ρ : Nat → Nat} {sz : Nat} (h : N ≤ 1000) (hI : Inj N ρ) : Gr N N ρ ρ sz := ⟨Nat.le_refl _, h, fun _ _ => rfl, fun k h1 h2 => absurd h2 (by omega), hI⟩
theorem Gr_trans {N N1 N2 : Nat} {ρ ρ1 ρ2 : Nat → Nat} {sz sz1 : Nat} (h : Gr N N1 ρ ρ1 sz) (h' : Gr N1 N2 ρ1 ρ2 sz1) (hs : sz ≤ sz1) : Gr N N2 ρ ρ2 sz := by
  obtain ⟨h1, h2, h3, h4, h5⟩ := h
  obtain ⟨g1, g2, g3, g4, g5⟩ := h'
  refine ⟨by omega, g2, fun k hk => (g3 k (by omega)).trans (h3 k hk), fun k hk hk2 => ?_, g5⟩
  by_cases hk1 : k < N1
  · rw [g3 k hk1]; exact h4 k hk hk1
  · exact Nat.le_trans hs (g4 k (by omega) hk2)
def GrK (K : Mk) (N N' : Nat) (ρ ρ' : Nat → Nat) : Prop := match K with
  | (_, _, _, _, s, _, _, _, _, _, _, _, _) => Gr N N' ρ ρ' s.heap.size
/-- no shape speaks of a cell that isn't there yet -/
def Wf1 (N : Nat) (c : Shc) : Prop := (∀ x ∈ c.2.2.1, x < N + 3) ∧ ∀ i l, c.2.2.2 i = some l → l < N
def Wf (N : Nat) (sh : Nat → Shc) : Prop := ∀ k, k < N → Wf1 N (sh k)
theorem Wf1_A {N n : Nat} : Wf1 N (cA n) := ⟨fun _ h => absurd h List.not_mem_nil, fun i l h => by cases h⟩
theorem Wf1_J {N n : Nat} : Wf1 N (cJ n) := ⟨fun _ h => absurd h List.not_mem_nil, fun i l h => by cases h⟩
theorem Wf1_Z {N n : Nat} : Wf1 N (cZ n) := ⟨fun _ h => absurd h List.not_mem_nil, fun i l h => by cases h⟩
theorem Wf1_O {N ci : Nat} {fds : List Nat} (h : ∀ x ∈ fds, x < N + 3) : Wf1 N (cO ci fds) := ⟨h, fun i l h => by cases h⟩
theorem Wf1_R {N t n : Nat} {f : Nat → Option Nat} (h : ∀ i l, f i = some l → l < N) : Wf1 N (cR t n f) := ⟨fun _ h => absurd h List.not_mem_nil, h⟩
theorem Wf1_mono {N N' : Nat} {c : Shc} (h : Wf1 N c) (hn : N ≤ N') : Wf1 N' c := ⟨fun x hx => Nat.lt_of_lt_of_le (h.1 x hx) (by omega), fun i l hl => Nat.lt_of_lt_of_le (h.2 i l hl) hn⟩
theorem Wf_new {N : Nat} {sh : Nat → Shc} {c : Shc} (h : Wf N sh) (hc : Wf1 (N + 1) c) : Wf (N + 1) (su sh N c) := fun k hk => by
  by_cases hkN : k = N
  · subst hkN; rw [su_s]; exact hc
  · rw [su_ne hkN]; exact Wf1_mono (h k (by omega)) (by omega)
theorem Wf_su {N : Nat} {sh : Nat → Shc} {c : Shc} {j : Nat} (h : Wf N sh) (hc : Wf1 N c) : Wf N (su sh j c) := fun k hk => by
  by_cases hkN : k = j
  · subst hkN; rw [su_s]; exact hc
  · rw [su_ne hkN]; exact h k hk
theorem fL_rho {ρ ρ' : Nat → Nat} {σ : Sig} {k N : Nat} (hρ : ∀ k, k < N → ρ' k = ρ k) : ∀ (fds : List Nat) (b : Nat), (∀ x ∈ fds, x < N + 3) → fL ρ' σ k b fds = fL ρ σ k b fds
  | [], b, _ => rfl
  | x :: t, b, h => by
    have e : fV ρ' σ k b x = fV ρ σ k b x := by
      have hx := h x List.mem_cons_self
      match x, hx with
      | 0, _ => rfl
      | 1, _ => rfl
      | 2, _ => rfl
      | l + 3, hx => show Value.ref (ρ' l) = Value.ref (ρ l); rw [hρ l (by omega)]
    show fV ρ' σ k b x :: fL ρ' σ k (b + 1) t = _
    rw [e, fL_rho hρ t (b + 1) (fun y hy => h y (List.mem_cons_of_mem _ hy))]
    rfl
theorem cE_rho {dA : Nat → ClassId} {ρ ρ' : Nat → Nat} {σ : Sig} {k N : Nat} {c : Shc} (hρ : ∀ k, k < N → ρ' k = ρ k) (h : Wf1 N c) : cE dA ρ' σ k c = cE dA ρ σ k c := by
  have hf : (fun i => (c.2.2.2 i).map ρ') = (fun i => (c.2.2.2 i).map ρ) := by
    funext i
    cases hc : c.2.2.2 i with
    | none => rfl
    | some l => show some (ρ' l) = some (ρ l); rw [hρ l (h.2 i l hc)]
  unfold cE
  split
  all_goals (first | rfl | (rw [hf]; done) | rw [fL_rho hρ _ _ h.1])
theorem mkW_len {dA : Nat → ClassId} {N : Nat} {ρ : Nat → Nat} {sh : Nat → Shc} {σ : Sig} : (mkW dA N ρ sh σ).length = N := by simp [mkW]
theorem mkW_new {dA : Nat → ClassId} {N : Nat} {ρ ρ1 : Nat → Nat} {sh : Nat → Shc} {σ : Sig} {c : Shc} (h : Wf N sh) (hρ : ∀ k, k < N → ρ1 k = ρ k) (hc : ∀ x ∈ c.2.2.1, x < 3) (hc2 : ∀ i, c.2.2.2 i = none) : mkW dA (N + 1) ρ1 (su sh N c) σ = mkW dA N ρ sh σ ++ [(ρ1 N, cE dA ρ σ N c)] := by
  unfold mkW
  rw [List.range_succ, List.map_append, List.map_singleton]
  congr 1
  · refine List.map_congr_left (fun k hk => ?_)
    have hk := List.mem_range.mp hk
    rw [su_ne (by omega), cE_rho hρ (h k hk), hρ k hk]
  · have e2 : cE dA ρ1 σ N c = cE dA ρ σ N c := cE_rho (N := 0) (fun k hk => absurd hk (by omega)) ⟨fun x hx => by have := hc x hx; omega, fun i l hl => by rw [hc2] at hl; cases hl⟩
    rw [su_s, e2]
theorem Gr_new {dA : Nat → ClassId} {N sz : Nat} {ρ ρ1 : Nat → Nat} {sh : Nat → Shc} {σ : Sig} {c : Shc} (hN : N < 1000) (hρ : ∀ k, k < N → ρ1 k = ρ k) (hD : va_D (AX N ρ sz) (mkW dA (N + 1) ρ1 (su sh N c) σ)) : Gr N (N + 1) ρ ρ1 sz := by
  refine ⟨by omega, by omega, hρ, fun j h1 h2 => ?_, fun i j hi hj hij => hD.1 i j _ _ (mkW_at hi rfl) (mkW_at hj rfl) hij⟩
  have hjN : j = N := by omega
  rw [hjN]
  have h3 := hD.2 N _ (mkW_at (show N < N + 1 by omega) rfl)
  rcases h3 with ⟨k2, hk2, hkq⟩ | h3
  · exfalso
    have := hD.1 k2 N _ _ (mkW_at (show k2 < N + 1 by omega) rfl) (mkW_at (show N < N + 1 by omega) rfl) (by show ρ1 k2 = ρ1 N; rw [hρ k2 hk2]; exact hkq)
    omega
  · exact h3
theorem mkW_sh {dA : Nat → ClassId} {N : Nat} {ρ : Nat → Nat} {sh sh' : Nat → Shc} {σ : Sig} (h : ∀ k, k < N → sh' k = sh k) : mkW dA N ρ sh' σ = mkW dA N ρ sh σ := by
  unfold mkW
  exact List.map_congr_left (fun k hk => by rw [h k (List.mem_range.mp hk)])
theorem mkW_su {dA : Nat → ClassId} {N : Nat} {ρ : Nat → Nat} {sh : Nat → Shc} {σ : Sig} {k : Nat} {c : Shc} : (mkW dA N ρ sh σ).set k (ρ k, cE dA ρ σ k c) = mkW dA N ρ (su sh k c) σ := by
  apply List.ext_getElem?
  intro j
  by_cases hj : j < N
  · rw [mkW_at hj rfl]
    by_cases hjk : j = k
    · subst hjk
      rw [List.getElem?_set_self (by simpa [mkW] using hj), su_s]
    · rw [List.getElem?_set_ne (Ne.symm hjk), mkW_at hj rfl, su_ne hjk]
  · rw [List.getElem?_eq_none (by simpa [mkW] using Nat.le_of_not_lt hj), List.getElem?_eq_none (by simpa [mkW] using Nat.le_of_not_lt hj)]
theorem Cx_gr {K : Mk} {G : Gt} {N N' : Nat} {ρ ρ' : Nat → Nat} {own : String} {cc : ByteArray} {nL fr lo a b : Nat} (C : Cx K G N ρ own cc nL fr lo) (hg : GrK K N N' ρ ρ') (hr : Rm K a b) : Cx (kb K a b) G N' ρ' own cc nL fr lo := by
  obtain ⟨p, l, e, R, s, m, args, below, meth, c, cells, slots, Q⟩ := K
  obtain ⟨hx, hb, hml, hown, hts, hlk, hK, hI, hO, hfr, hlo, hce, hsl, hN2⟩ := C
  exact ⟨hx, hb, hml, hown, hts, hlk, hK, hg.2.2.2.2, by rw [Gr_AX hg]; exact hO, hfr, hlo, hr.1, hr.2, hg.2.1⟩
/-- all that holds of a method that makes cells; T says how it ends -/
def AL (K : Mk) (G : Gt) (own : String) (cc : ByteArray) (nL fr lo : Nat) (T : Mk → Prop) (N0 : Nat) (ρ0 : Nat → Nat) (N : Nat) (ρ : Nat → Nat) (sh : Nat → Shc) (a b : Nat) : Prop :=
  Cx K G N ρ own cc nL fr lo ∧ T K ∧ (∀ (K : Mk) (a b : Nat), T K → T (kb K a b)) ∧ Rm K a b ∧ GrK K N0 N ρ0 ρ ∧ Wf N sh
theorem AL_sh {K : Mk} {G : Gt} {own : String} {cc : ByteArray} {nL fr lo : Nat} {T : Mk → Prop} {N0 : Nat} {ρ0 : Nat → Nat} {N : Nat} {ρ : Nat → Nat} {sh : Nat → Shc} {a b k : Nat} {c : Shc} (A : AL K G own cc nL fr lo T N0 ρ0 N ρ sh a b) (h : Wf1 N c) : AL K G own cc nL fr lo T N0 ρ0 N ρ (su sh k c) a b := ⟨A.1, A.2.1, A.2.2.1, A.2.2.2.1, A.2.2.2.2.1, Wf_su A.2.2.2.2.2 h⟩
theorem AL_gr {K : Mk} {G : Gt} {own : String} {cc : ByteArray} {nL fr lo : Nat} {T : Mk → Prop} {N0 : Nat} {ρ0 : Nat → Nat} {N : Nat} {ρ : Nat → Nat} {sh : Nat → Shc} {a b a1 b1 : Nat} (A : AL K G own cc nL fr lo T N0 ρ0 N ρ sh (a + a1) (b + b1)) {N' : Nat} {ρ' : Nat → Nat} {sh' : Nat → Shc} (hg : GrK K N N' ρ ρ') (hw : Wf N' sh') : AL (kb K a1 b1) G own cc nL fr lo T N0 ρ0 N' ρ' sh' a b := by
  obtain ⟨h1, h2, h3, h4, h5, h6⟩ := A
  have hr : Rm K a1 b1 := by
    obtain ⟨p, l, e, R, s, m, args, below, meth, c, cells, slots, Q⟩ := K
    obtain ⟨q1, q2⟩ := h4
    exact ⟨by omega, by omega⟩
  refine ⟨Cx_gr h1 hg hr, h3 _ _ _ h2, h3, ?_, ?_, hw⟩
  · obtain ⟨p, l, e, R, s, m, args, below, meth, c, cells, slots, Q⟩ := K
    obtain ⟨q1, q2⟩ := h4
    exact ⟨by omega, by omega⟩
  · obtain ⟨p, l, e, R, s, m, args, below, meth, c, cells, slots, Q⟩ := K
    exact Gr_trans h5 hg (Nat.le_refl _)
/-- which field holds nothing at first, by its type -/
def dfl : FieldType → Nat → Bool
  | .int, 0 => true
  | .boolean, 0 => true
  | .long, 1 => true
  | .object _, 2 => true
  | .array _, 2 => true
  | _, _ => false
theorem dfl_ok {t : FieldType} {fd k j : Nat} {ρ : Nat → Nat} {σ : Sig} (h : dfl t fd = true) (h0 : σ k j = 0) (h1 : σ (k + 1000) j = 0) : defaultValue t = fV ρ σ k j fd := by
  unfold dfl at h
  split at h <;> first | (show _ = Value.int (iZ (σ k j)); rw [h0]; rfl) | (show _ = Value.long (lZ (σ (k + 1000) j)); rw [h1]; rfl) | rfl | cases h
section ROWS
variable {K : Mk} {G : Gt} {N : Nat} {ρ : Nat → Nat} {sh : Nat → Shc} {own : String} {cc : ByteArray} {nL fr lo : Nat} {pc n : Nat} {lv : List (Option Value)} {st : List Value} {σ : Sig}
variable {T : Mk → Prop} {N0 : Nat} {ρ0 : Nat → Nat} {a b : Nat} {lvf : (Nat → Nat) → List (Option Value)} {stf : (Nat → Nat) → List Value}
theorem x_newI {len : Nat} (n : Nat) (A : AL K G own cc nL fr lo T N0 ρ0 N ρ sh (a + 1) (b + len)) (hN : N < 1000) (hw : Cond.arrayClass .int ∈ TB) (hlen : len ≤ 100000) (hz : ∀ i, σ N i = 0) (hlv : ∀ ρ' : Nat → Nat, (∀ k, k < N → ρ' k = ρ k) → lvf ρ' = lv ∧ stf ρ' = st) (d : decode cc pc = .ok (.newarray .int, 2)) (hn : pc + 2 = n) (k : ∀ (K' : Mk) (ρ' : Nat → Nat), K'.2.1 = K.2.1 → (∀ k, k < N → ρ' k = ρ k) → AL K' G own cc nL fr lo T N0 ρ0 (N + 1) ρ' (su sh N (cA len)) a b → Ex K' G (N + 1) ρ' (su sh N (cA len)) n (lvf ρ') (.ref (ρ' N) :: stf ρ') σ) : Ex K G N ρ sh pc lv (.int (iZ (len : Int)) :: st) σ := by
  obtain ⟨hC, hT, hTk, hrm, hgr, hwf⟩ := id A
  obtain ⟨p, l, e, R, s, m, args, below, meth, c, cells, slots, Q⟩ := K
  obtain ⟨hx, hb, hml, hown, hts, hlk, hK, hI, hO, hfr, hlo, hce, hsl, hN2⟩ := hC
  subst hn; intro hR H locs ls hP hS hl
  have hlc : (iZ (len : Int)).toNatClampNeg = len := by rw [iZ_clamp (by omega)]; exact Int.toNat_natCast len
  refine va_newa (atype := .int) hx hb (hts _ hw) rfl hK hP (mkW_D hI) hS (fun q h => Or.inr h) (a0 := (len, .inl (fun i => iZ (σ N i)))) ?_ (fun h => by have h0 : iZ (len : Int) < iZ 0 := h; rw [iZ_lt (by omega) (by omega)] at h0; omega) hlc (Nat.le_trans (Nat.mul_le_mul hlen (show componentBytes (newarray.typeOf .int) ≤ 8 by decide)) (by decide)) (by have := hrm.1; omega) (by have := hrm.2; omega) d (fun q cA H1 hK1 hP1 hD1 hS1 => ?_)
  · intro cA
    show arrV cA len (fun j => Value.int (iZ (σ N j))) = arrV cA len (fun _ => Value.int 0)
    congr 1
    funext j
    rw [hz j]
    rfl
  · have hcA : cA = G.2.1 0 := by
      have h1 := (hK.2 0 _ rfl).2
      have h2 := (hK1.2 6 (cA, newarray.typeOf .int) rfl).2
      exact Option.some.inj (h2.symm.trans h1)
    subst hcA
    obtain ⟨ρ1, hρ, rfl⟩ : ∃ ρ1 : Nat → Nat, (∀ k, k < N → ρ1 k = ρ k) ∧ ρ1 N = q := ⟨fun k => if k = N then q else ρ k, fun k hk => if_neg (by omega), if_pos rfl⟩
    have hmk := mkW_new (dA := G.2.1) (ρ := ρ) (ρ1 := ρ1) (σ := σ) (c := cA len) hwf hρ (fun _ h => absurd h List.not_mem_nil) (fun _ => rfl)
    have hW1 : mkW G.2.1 N ρ sh σ ++ [(ρ1 N, .inl (G.2.1 0, len, .inl (fun i => iZ (σ N i))))] = mkW G.2.1 (N + 1) ρ1 (su sh N (cA len)) σ := hmk.symm
    rw [hW1] at hP1 hD1
    have hg : Gr N (N + 1) ρ ρ1 s.heap.size := Gr_new hN hρ hD1
    obtain ⟨e1, e2⟩ := hlv _ hρ
    have hk := k (kb (p, l, e, R, s, m, args, below, meth, c, cells, slots, Q) 1 len) _ rfl hρ (AL_gr A hg (Wf_new hwf Wf1_A)) hR H1 locs ls hP1 (by rw [Gr_AX hg]; exact hS1)
    rw [e1, e2] at hk
    exact hk hl

theorem x_newJ {len : Nat} (n : Nat) (A : AL K G own cc nL fr lo T N0 ρ0 N ρ sh (a + 1) (b + len)) (hN : N < 1000) (hw : Cond.arrayClass .long ∈ TB) (hlen : len ≤ 100000) (hz : ∀ i, σ (N + 1000) i = 0) (hlv : ∀ ρ' : Nat → Nat, (∀ k, k < N → ρ' k = ρ k) → lvf ρ' = lv ∧ stf ρ' = st) (d : decode cc pc = .ok (.newarray .long, 2)) (hn : pc + 2 = n) (k : ∀ (K' : Mk) (ρ' : Nat → Nat), K'.2.1 = K.2.1 → (∀ k, k < N → ρ' k = ρ k) → AL K' G own cc nL fr lo T N0 ρ0 (N + 1) ρ' (su sh N (cJ len)) a b → Ex K' G (N + 1) ρ' (su sh N (cJ len)) n (lvf ρ') (.ref (ρ' N) :: stf ρ') σ) : Ex K G N ρ sh pc lv (.int (iZ (len : Int)) :: st) σ := by
  obtain ⟨hC, hT, hTk, hrm, hgr, hwf⟩ := id A
  obtain ⟨p, l, e, R, s, m, args, below, meth, c, cells, slots, Q⟩ := K
  obtain ⟨hx, hb, hml, hown, hts, hlk, hK, hI, hO, hfr, hlo, hce, hsl, hN2⟩ := hC
  subst hn; intro hR H locs ls hP hS hl
  have hlc : (iZ (len : Int)).toNatClampNeg = len := by rw [iZ_clamp (by omega)]; exact Int.toNat_natCast len
  refine va_newa (atype := .long) hx hb (hts _ hw) rfl hK hP (mkW_D hI) hS (fun q h => Or.inr h) (a0 := (len, .inr (.inl (fun i => lZ (σ (N + 1000) i))))) ?_ (fun h => by have h0 : iZ (len : Int) < iZ 0 := h; rw [iZ_lt (by omega) (by omega)] at h0; omega) hlc (Nat.le_trans (Nat.mul_le_mul hlen (show componentBytes (newarray.typeOf .long) ≤ 8 by decide)) (by decide)) (by have := hrm.1; omega) (by have := hrm.2; omega) d (fun q cA H1 hK1 hP1 hD1 hS1 => ?_)
  · intro cA
    show arrV cA len (fun j => Value.long (lZ (σ (N + 1000) j))) = arrV cA len (fun _ => Value.long 0)
    congr 1
    funext j
    rw [hz j]
    rfl
  · have hcA : cA = G.2.1 1 := by
      have h1 := (hK.2 1 _ rfl).2
      have h2 := (hK1.2 6 (cA, newarray.typeOf .long) rfl).2
      exact Option.some.inj (h2.symm.trans h1)
    subst hcA
    obtain ⟨ρ1, hρ, rfl⟩ : ∃ ρ1 : Nat → Nat, (∀ k, k < N → ρ1 k = ρ k) ∧ ρ1 N = q := ⟨fun k => if k = N then q else ρ k, fun k hk => if_neg (by omega), if_pos rfl⟩
    have hmk := mkW_new (dA := G.2.1) (ρ := ρ) (ρ1 := ρ1) (σ := σ) (c := cJ len) hwf hρ (fun _ h => absurd h List.not_mem_nil) (fun _ => rfl)
    have hW1 : mkW G.2.1 N ρ sh σ ++ [(ρ1 N, .inl (G.2.1 1, len, .inr (.inl (fun i => lZ (σ (N + 1000) i)))))] = mkW G.2.1 (N + 1) ρ1 (su sh N (cJ len)) σ := hmk.symm
    rw [hW1] at hP1 hD1
    have hg : Gr N (N + 1) ρ ρ1 s.heap.size := Gr_new hN hρ hD1
    obtain ⟨e1, e2⟩ := hlv _ hρ
    have hk := k (kb (p, l, e, R, s, m, args, below, meth, c, cells, slots, Q) 1 len) _ rfl hρ (AL_gr A hg (Wf_new hwf Wf1_J)) hR H1 locs ls hP1 (by rw [Gr_AX hg]; exact hS1)
    rw [e1, e2] at hk
    exact hk hl

theorem x_newZ {len : Nat} (n : Nat) (A : AL K G own cc nL fr lo T N0 ρ0 N ρ sh (a + 1) (b + len)) (hN : N < 1000) (hw : Cond.arrayClass .boolean ∈ TB) (hlen : len ≤ 100000) (hz : ∀ i, σ N i = 0) (hlv : ∀ ρ' : Nat → Nat, (∀ k, k < N → ρ' k = ρ k) → lvf ρ' = lv ∧ stf ρ' = st) (d : decode cc pc = .ok (.newarray .boolean, 2)) (hn : pc + 2 = n) (k : ∀ (K' : Mk) (ρ' : Nat → Nat), K'.2.1 = K.2.1 → (∀ k, k < N → ρ' k = ρ k) → AL K' G own cc nL fr lo T N0 ρ0 (N + 1) ρ' (su sh N (cZ len)) a b → Ex K' G (N + 1) ρ' (su sh N (cZ len)) n (lvf ρ') (.ref (ρ' N) :: stf ρ') σ) : Ex K G N ρ sh pc lv (.int (iZ (len : Int)) :: st) σ := by
  obtain ⟨hC, hT, hTk, hrm, hgr, hwf⟩ := id A
  obtain ⟨p, l, e, R, s, m, args, below, meth, c, cells, slots, Q⟩ := K
  obtain ⟨hx, hb, hml, hown, hts, hlk, hK, hI, hO, hfr, hlo, hce, hsl, hN2⟩ := hC
  subst hn; intro hR H locs ls hP hS hl
  have hlc : (iZ (len : Int)).toNatClampNeg = len := by rw [iZ_clamp (by omega)]; exact Int.toNat_natCast len
  refine va_newa (atype := .boolean) hx hb (hts _ hw) rfl hK hP (mkW_D hI) hS (fun q h => Or.inr h) (a0 := (len, .inl (fun i => iZ (σ N i)))) ?_ (fun h => by have h0 : iZ (len : Int) < iZ 0 := h; rw [iZ_lt (by omega) (by omega)] at h0; omega) hlc (Nat.le_trans (Nat.mul_le_mul hlen (show componentBytes (newarray.typeOf .boolean) ≤ 8 by decide)) (by decide)) (by have := hrm.1; omega) (by have := hrm.2; omega) d (fun q cA H1 hK1 hP1 hD1 hS1 => ?_)
  · intro cA
    show arrV cA len (fun j => Value.int (iZ (σ N j))) = arrV cA len (fun _ => Value.int 0)
    congr 1
    funext j
    rw [hz j]
    rfl
  · have hcA : cA = G.2.1 2 := by
      have h1 := (hK.2 2 _ rfl).2
      have h2 := (hK1.2 6 (cA, newarray.typeOf .boolean) rfl).2
      exact Option.some.inj (h2.symm.trans h1)
    subst hcA
    obtain ⟨ρ1, hρ, rfl⟩ : ∃ ρ1 : Nat → Nat, (∀ k, k < N → ρ1 k = ρ k) ∧ ρ1 N = q := ⟨fun k => if k = N then q else ρ k, fun k hk => if_neg (by omega), if_pos rfl⟩
    have hmk := mkW_new (dA := G.2.1) (ρ := ρ) (ρ1 := ρ1) (σ := σ) (c := cZ len) hwf hρ (fun _ h => absurd h List.not_mem_nil) (fun _ => rfl)
    have hW1 : mkW G.2.1 N ρ sh σ ++ [(ρ1 N, .inl (G.2.1 2, len, .inl (fun i => iZ (σ N i))))] = mkW G.2.1 (N + 1) ρ1 (su sh N (cZ len)) σ := hmk.symm
    rw [hW1] at hP1 hD1
    have hg : Gr N (N + 1) ρ ρ1 s.heap.size := Gr_new hN hρ hD1
    obtain ⟨e1, e2⟩ := hlv _ hρ
    have hk := k (kb (p, l, e, R, s, m, args, below, meth, c, cells, slots, Q) 1 len) _ rfl hρ (AL_gr A hg (Wf_new hwf Wf1_Z)) hR H1 locs ls hP1 (by rw [Gr_AX hg]; exact hS1)
    rw [e1, e2] at hk
    exact hk hl

theorem x_new {ci nF ix : Nat} {fds : List Nat} {C1 : String} {T1 : u_T} (ty : Nat → FieldType) (n : Nat) (A : AL K G own cc nL fr lo T N0 ρ0 N ρ sh (a + 1) (b + nF)) (hN : N < 1000) (hc : vwC[ci]? = some (C1, T1, nF)) (hin : ∀ w ∈ u_ws C1 T1 nF, w ∈ TB) (hty : ∀ k, k < nF → parseFieldDescriptor (T1 k).2.2.1 = some (ty k)) (w1 : Cond.classLink own ix C1 ∈ TB) (w2 : Cond.instantiable C1 nF ∈ TB) (w3 : Cond.initialized C1 ∈ TB) (hfd : (List.range nF).all (fun j => dfl (ty j) (fds.getD j 9)) = true) (hlen : fds.length = nF) (h3 : ∀ x ∈ fds, x < 3) (hz : ∀ j, σ N j = 0 ∧ σ (N + 1000) j = 0) (hlv : ∀ ρ' : Nat → Nat, (∀ k, k < N → ρ' k = ρ k) → lvf ρ' = lv ∧ stf ρ' = st) (d : decode cc pc = .ok (.new ix, 3)) (hn : pc + 3 = n) (k : ∀ (K' : Mk) (ρ' : Nat → Nat), K'.2.1 = K.2.1 → (∀ k, k < N → ρ' k = ρ k) → AL K' G own cc nL fr lo T N0 ρ0 (N + 1) ρ' (su sh N (cO ci fds)) a b → Ex K' G (N + 1) ρ' (su sh N (cO ci fds)) n (lvf ρ') (.ref (ρ' N) :: stf ρ') σ) : Ex K G N ρ sh pc lv st σ := by
  obtain ⟨hC, hT, hTk, hrm, hgr, hwf⟩ := id A
  obtain ⟨p, l, e, R, s, m, args, below, meth, c, cells, slots, Q⟩ := K
  obtain ⟨hx, hb, hml, hown, hts, hlk, hK, hI, hO, hfr, hlo, hce, hsl, hN2⟩ := hC
  subst hn; intro hR H locs ls hP hS hl
  refine va_new (ci := ci) (C := C1) (T := T1) (N := nF) (fs := fL ρ σ N 0 fds) hx hb hts hin ty hty hown (hts _ w1) (hts _ w2) (hts _ w3) hK hP (mkW_D hI) hS (fun q h => Or.inr h) hc ?_ (by have := hrm.1; omega) (by have := hrm.2; omega) d (fun q H1 hP1 hD1 hS1 => ?_)
  · intro j hj
    have h1 : fds[j]? = some (fds.getD j 9) := by rw [List.getD_eq_getElem?_getD, List.getElem?_eq_getElem (by omega)]; rfl
    have h2 := fL_get (ρ := ρ) (σ := σ) (k := N) fds 0 j _ h1
    rw [Nat.zero_add] at h2
    have h4 := List.all_eq_true.mp hfd j (List.mem_range.mpr hj)
    unfold vp_V
    rw [List.getD_eq_getElem?_getD, h2]
    exact dfl_ok h4 (hz j).1 (hz j).2
  · obtain ⟨ρ1, hρ, rfl⟩ : ∃ ρ1 : Nat → Nat, (∀ k, k < N → ρ1 k = ρ k) ∧ ρ1 N = q := ⟨fun k => if k = N then q else ρ k, fun k hk => if_neg (by omega), if_pos rfl⟩
    have hmk := mkW_new (dA := G.2.1) (ρ := ρ) (ρ1 := ρ1) (σ := σ) (c := cO ci fds) hwf hρ h3 (fun _ => rfl)
    have hW1 : mkW G.2.1 N ρ sh σ ++ [(ρ1 N, .inr (ci, fL ρ σ N 0 fds))] = mkW G.2.1 (N + 1) ρ1 (su sh N (cO ci fds)) σ := hmk.symm
    rw [hW1] at hP1 hD1
    have hg : Gr N (N + 1) ρ ρ1 s.heap.size := Gr_new hN hρ hD1
    obtain ⟨e1, e2⟩ := hlv _ hρ
    have hk := k (kb (p, l, e, R, s, m, args, below, meth, c, cells, slots, Q) 1 nF) _ rfl hρ (AL_gr A hg (Wf_new hwf (Wf1_O (fun x hx => by have := h3 x hx; omega)))) hR H1 locs ls hP1 (by rw [Gr_AX hg]; exact hS1)
    rw [e1, e2] at hk
    exact hk hl
theorem x_anew0 {ix len : Nat} (n : Nat) (A : AL K G own cc nL fr lo T N0 ρ0 N ρ sh (a + 1) (b + len)) (hN : N < 1000) (hw : Cond.classLink own ix "FirstSeen$Thing" ∈ TB) (hlen : len ≤ 100000) (hlv : ∀ ρ' : Nat → Nat, (∀ k, k < N → ρ' k = ρ k) → lvf ρ' = lv ∧ stf ρ' = st) (d : decode cc pc = .ok (.anewarray ix, 3)) (hn : pc + 3 = n) (k : ∀ (K' : Mk) (ρ' : Nat → Nat), K'.2.1 = K.2.1 → (∀ k, k < N → ρ' k = ρ k) → AL K' G own cc nL fr lo T N0 ρ0 (N + 1) ρ' (su sh N (cR 0 len (fun _ => none))) a b → Ex K' G (N + 1) ρ' (su sh N (cR 0 len (fun _ => none))) n (lvf ρ') (.ref (ρ' N) :: stf ρ') σ) : Ex K G N ρ sh pc lv (.int (iZ (len : Int)) :: st) σ := by
  obtain ⟨hC, hT, hTk, hrm, hgr, hwf⟩ := id A
  obtain ⟨p, l, e, R, s, m, args, below, meth, c, cells, slots, Q⟩ := K
  obtain ⟨hx, hb, hml, hown, hts, hlk, hK, hI, hO, hfr, hlo, hce, hsl, hN2⟩ := hC
  subst hn; intro hR H locs ls hP hS hl
  have hlc : (iZ (len : Int)).toNatClampNeg = len := by rw [iZ_clamp (by omega)]; exact Int.toNat_natCast len
  refine va_newq (C := "FirstSeen$Thing") hx hb hown (hts _ hw) hO.2.2.2.2.2.2.2.2.2.2.1 hK hP (mkW_D hI) hS (fun q h => Or.inr h) (fun h => by have h0 : iZ (len : Int) < iZ 0 := h; rw [iZ_lt (by omega) (by omega)] at h0; omega) hlc (by omega) (by have := hrm.1; omega) (by have := hrm.2; omega) d (fun q cA H1 hK1 hP1 hD1 hS1 => ?_)
  have hcA : cA = G.2.1 3 := by
    obtain ⟨_, _, _, _, _, h1⟩ := (hK.2 3 _ rfl).2
    obtain ⟨_, _, _, _, _, h2⟩ := (hK1.2 6 (cA, .object "FirstSeen$Thing") rfl).2
    exact Option.some.inj (h2.symm.trans h1)
  subst hcA
  obtain ⟨ρ1, hρ, rfl⟩ : ∃ ρ1 : Nat → Nat, (∀ k, k < N → ρ1 k = ρ k) ∧ ρ1 N = q := ⟨fun k => if k = N then q else ρ k, fun k hk => if_neg (by omega), if_pos rfl⟩
  have hmk := mkW_new (dA := G.2.1) (ρ := ρ) (ρ1 := ρ1) (σ := σ) (c := cR 0 len (fun _ => none)) hwf hρ (fun _ h => absurd h List.not_mem_nil) (fun _ => rfl)
  have hW1 : mkW G.2.1 N ρ sh σ ++ [(ρ1 N, .inl (G.2.1 3, len, .inr (.inr (.inr (.inr (fun _ => none))))))] = mkW G.2.1 (N + 1) ρ1 (su sh N (cR 0 len (fun _ => none))) σ := hmk.symm
  rw [hW1] at hP1 hD1
  have hg : Gr N (N + 1) ρ ρ1 s.heap.size := Gr_new hN hρ hD1
  obtain ⟨e1, e2⟩ := hlv _ hρ
  have hk := k (kb (p, l, e, R, s, m, args, below, meth, c, cells, slots, Q) 1 len) _ rfl hρ (AL_gr A hg (Wf_new hwf (Wf1_R (f := fun _ => none) (fun i l h => by cases h)))) hR H1 locs ls hP1 (by rw [Gr_AX hg]; exact hS1)
  rw [e1, e2] at hk
  exact hk hl
theorem x_anew1 {ix len : Nat} (n : Nat) (A : AL K G own cc nL fr lo T N0 ρ0 N ρ sh (a + 1) (b + len)) (hN : N < 1000) (hw : Cond.classLink own ix "FirstSeen$Text" ∈ TB) (hlen : len ≤ 100000) (hlv : ∀ ρ' : Nat → Nat, (∀ k, k < N → ρ' k = ρ k) → lvf ρ' = lv ∧ stf ρ' = st) (d : decode cc pc = .ok (.anewarray ix, 3)) (hn : pc + 3 = n) (k : ∀ (K' : Mk) (ρ' : Nat → Nat), K'.2.1 = K.2.1 → (∀ k, k < N → ρ' k = ρ k) → AL K' G own cc nL fr lo T N0 ρ0 (N + 1) ρ' (su sh N (cR 1 len (fun _ => none))) a b → Ex K' G (N + 1) ρ' (su sh N (cR 1 len (fun _ => none))) n (lvf ρ') (.ref (ρ' N) :: stf ρ') σ) : Ex K G N ρ sh pc lv (.int (iZ (len : Int)) :: st) σ := by
  obtain ⟨hC, hT, hTk, hrm, hgr, hwf⟩ := id A
  obtain ⟨p, l, e, R, s, m, args, below, meth, c, cells, slots, Q⟩ := K
  obtain ⟨hx, hb, hml, hown, hts, hlk, hK, hI, hO, hfr, hlo, hce, hsl, hN2⟩ := hC
  subst hn; intro hR H locs ls hP hS hl
  have hlc : (iZ (len : Int)).toNatClampNeg = len := by rw [iZ_clamp (by omega)]; exact Int.toNat_natCast len
  refine va_newq (C := "FirstSeen$Text") hx hb hown (hts _ hw) hO.2.2.2.2.2.2.2.2.2.2.2.1 hK hP (mkW_D hI) hS (fun q h => Or.inr h) (fun h => by have h0 : iZ (len : Int) < iZ 0 := h; rw [iZ_lt (by omega) (by omega)] at h0; omega) hlc (by omega) (by have := hrm.1; omega) (by have := hrm.2; omega) d (fun q cA H1 hK1 hP1 hD1 hS1 => ?_)
  have hcA : cA = G.2.1 4 := by
    obtain ⟨_, _, _, _, _, h1⟩ := (hK.2 4 _ rfl).2
    obtain ⟨_, _, _, _, _, h2⟩ := (hK1.2 6 (cA, .object "FirstSeen$Text") rfl).2
    exact Option.some.inj (h2.symm.trans h1)
  subst hcA
  obtain ⟨ρ1, hρ, rfl⟩ : ∃ ρ1 : Nat → Nat, (∀ k, k < N → ρ1 k = ρ k) ∧ ρ1 N = q := ⟨fun k => if k = N then q else ρ k, fun k hk => if_neg (by omega), if_pos rfl⟩
  have hmk := mkW_new (dA := G.2.1) (ρ := ρ) (ρ1 := ρ1) (σ := σ) (c := cR 1 len (fun _ => none)) hwf hρ (fun _ h => absurd h List.not_mem_nil) (fun _ => rfl)
  have hW1 : mkW G.2.1 N ρ sh σ ++ [(ρ1 N, .inl (G.2.1 4, len, .inr (.inr (.inr (.inr (fun _ => none))))))] = mkW G.2.1 (N + 1) ρ1 (su sh N (cR 1 len (fun _ => none))) σ := hmk.symm
  rw [hW1] at hP1 hD1
  have hg : Gr N (N + 1) ρ ρ1 s.heap.size := Gr_new hN hρ hD1
  obtain ⟨e1, e2⟩ := hlv _ hρ
  have hk := k (kb (p, l, e, R, s, m, args, below, meth, c, cells, slots, Q) 1 len) _ rfl hρ (AL_gr A hg (Wf_new hwf (Wf1_R (f := fun _ => none) (fun i l h => by cases h)))) hR H1 locs ls hP1 (by rw [Gr_AX hg]; exact hS1)
  rw [e1, e2] at hk
  exact hk hl
theorem x_anew2 {ix len : Nat} (n : Nat) (A : AL K G own cc nL fr lo T N0 ρ0 N ρ sh (a + 1) (b + len)) (hN : N < 1000) (hw : Cond.classLink own ix "FirstSeen$Sheet" ∈ TB) (hlen : len ≤ 100000) (hlv : ∀ ρ' : Nat → Nat, (∀ k, k < N → ρ' k = ρ k) → lvf ρ' = lv ∧ stf ρ' = st) (d : decode cc pc = .ok (.anewarray ix, 3)) (hn : pc + 3 = n) (k : ∀ (K' : Mk) (ρ' : Nat → Nat), K'.2.1 = K.2.1 → (∀ k, k < N → ρ' k = ρ k) → AL K' G own cc nL fr lo T N0 ρ0 (N + 1) ρ' (su sh N (cR 2 len (fun _ => none))) a b → Ex K' G (N + 1) ρ' (su sh N (cR 2 len (fun _ => none))) n (lvf ρ') (.ref (ρ' N) :: stf ρ') σ) : Ex K G N ρ sh pc lv (.int (iZ (len : Int)) :: st) σ := by
  obtain ⟨hC, hT, hTk, hrm, hgr, hwf⟩ := id A
  obtain ⟨p, l, e, R, s, m, args, below, meth, c, cells, slots, Q⟩ := K
  obtain ⟨hx, hb, hml, hown, hts, hlk, hK, hI, hO, hfr, hlo, hce, hsl, hN2⟩ := hC
  subst hn; intro hR H locs ls hP hS hl
  have hlc : (iZ (len : Int)).toNatClampNeg = len := by rw [iZ_clamp (by omega)]; exact Int.toNat_natCast len
  refine va_newq (C := "FirstSeen$Sheet") hx hb hown (hts _ hw) hO.2.2.2.2.2.2.2.2.2.2.2.2 hK hP (mkW_D hI) hS (fun q h => Or.inr h) (fun h => by have h0 : iZ (len : Int) < iZ 0 := h; rw [iZ_lt (by omega) (by omega)] at h0; omega) hlc (by omega) (by have := hrm.1; omega) (by have := hrm.2; omega) d (fun q cA H1 hK1 hP1 hD1 hS1 => ?_)
  have hcA : cA = G.2.1 5 := by
    obtain ⟨_, _, _, _, _, h1⟩ := (hK.2 5 _ rfl).2
    obtain ⟨_, _, _, _, _, h2⟩ := (hK1.2 6 (cA, .object "FirstSeen$Sheet") rfl).2
    exact Option.some.inj (h2.symm.trans h1)
  subst hcA
  obtain ⟨ρ1, hρ, rfl⟩ : ∃ ρ1 : Nat → Nat, (∀ k, k < N → ρ1 k = ρ k) ∧ ρ1 N = q := ⟨fun k => if k = N then q else ρ k, fun k hk => if_neg (by omega), if_pos rfl⟩
  have hmk := mkW_new (dA := G.2.1) (ρ := ρ) (ρ1 := ρ1) (σ := σ) (c := cR 2 len (fun _ => none)) hwf hρ (fun _ h => absurd h List.not_mem_nil) (fun _ => rfl)
  have hW1 : mkW G.2.1 N ρ sh σ ++ [(ρ1 N, .inl (G.2.1 5, len, .inr (.inr (.inr (.inr (fun _ => none))))))] = mkW G.2.1 (N + 1) ρ1 (su sh N (cR 2 len (fun _ => none))) σ := hmk.symm
  rw [hW1] at hP1 hD1
  have hg : Gr N (N + 1) ρ ρ1 s.heap.size := Gr_new hN hρ hD1
  obtain ⟨e1, e2⟩ := hlv _ hρ
  have hk := k (kb (p, l, e, R, s, m, args, below, meth, c, cells, slots, Q) 1 len) _ rfl hρ (AL_gr A hg (Wf_new hwf (Wf1_R (f := fun _ => none) (fun i l h => by cases h)))) hR H1 locs ls hP1 (by rw [Gr_AX hg]; exact hS1)
  rw [e1, e2] at hk
  exact hk hl
theorem x_putFr {ci nF j ix lb l1 : Nat} {fds : List Nat} {C1 ref : String} {T1 : u_T} {ft : FieldType} (ty0 : Nat → FieldType) (n : Nat) (C : Cx K G N ρ own cc nL fr lo) (hci : Ci K) (hs : sh lb = cO ci fds) (hN : lb < N) (hj2 : j < fds.length) (hc : vwC[ci]? = some (C1, T1, nF)) (hj : j < nF) (hin : ∀ w ∈ u_ws C1 T1 nF, w ∈ TB) (hty : ∀ k, k < nF → parseFieldDescriptor (T1 k).2.2.1 = some (ty0 k)) (hnm : ∀ a, a < nF → ∀ b, b < nF → a ≠ b → (T1 a).2.1 ≠ (T1 b).2.1) (hw : Cond.fieldLink own ix ref (T1 j).2.1 (T1 j).2.2.1 ∈ TB) (hr : ref = (T1 j).1) (hfi : (T1 j).2.2.2 = true) (hdc : (T1 j).1 = own) (hd : parseFieldDescriptor (T1 j).2.2.1 = some ft) (hft : (∃ x, ft = .object x) ∨ ∃ x, ft = .array x) (d : decode cc pc = .ok (.putfield ix, 3)) (hn : pc + 3 = n) (k : Ex K G N ρ (su sh lb (cO ci (fds.set j (l1 + 3)))) n lv st σ) : Ex K G N ρ sh pc lv (.ref (ρ l1) :: .ref (ρ lb) :: st) σ := by
  obtain ⟨p, l, e, R, s, m, args, below, meth, c, cells, slots, Q⟩ := K
  obtain ⟨hx, hb, hml, hown, hts, hlk, hK, hI, hO, hfr, hlo, hce, hsl, hN2⟩ := C
  subst hn; intro hR H locs ls hP hS hl
  subst hr
  refine va_putF (D := G.1) (C := C1) (T := T1) (N := nF) hx hb hts hin ty0 hty hnm hown hK hP (mkW_D hI) hS lb (mkW_at hN hs) hc j hj (hts _ hw) (fun _ h => h) hfi hci hdc hd (by rcases hft with ⟨x, rfl⟩ | ⟨x, rfl⟩ <;> rfl) (by rcases hft with ⟨x, rfl⟩ | ⟨x, rfl⟩ <;> rfl) (by rw [fL_len]; exact hj2) d (fun H1 locs1 hP1 _ hS1 => k hR H1 locs1 ls ?_ hS1 hl)
  rw [← mkW_su]
  have e : fL ρ σ lb 0 (fds.set j (l1 + 3)) = (fL ρ σ lb 0 fds).set j (.ref (ρ l1)) := by
    apply List.ext_getElem?
    intro i
    by_cases hij : i = j
    · subst hij
      rw [List.getElem?_set_self (by rw [fL_len]; exact hj2)]
      have h := fL_get (ρ := ρ) (σ := σ) (k := lb) (fds.set i (l1 + 3)) 0 i (l1 + 3) (by rw [List.getElem?_set_self hj2])
      exact h
    · rw [List.getElem?_set_ne (Ne.symm hij)]
      by_cases hl : i < fds.length
      · obtain ⟨fd, hfd⟩ : ∃ fd, fds[i]? = some fd := ⟨_, List.getElem?_eq_getElem hl⟩
        rw [fL_get (ρ := ρ) (σ := σ) (k := lb) fds 0 i fd hfd]
        exact fL_get (ρ := ρ) (σ := σ) (k := lb) (fds.set j (l1 + 3)) 0 i fd (by rw [List.getElem?_set_ne (Ne.symm hij)]; exact hfd)
      · rw [List.getElem?_eq_none (by rw [fL_len, List.length_set]; omega), List.getElem?_eq_none (by rw [fL_len]; omega)]
  have e2 : cE G.2.1 ρ σ lb (cO ci (fds.set j (l1 + 3))) = .inr (ci, (fL ρ σ lb 0 fds).set j (.ref (ρ l1))) := by rw [cE_O, e]
  rw [e2]
  exact hP1
theorem x_putFi {ci nF j ix : Nat} {fds : List Nat} {C1 ref : String} {T1 : u_T} {lb : Nat} {z : Int} (ty0 : Nat → FieldType) (n : Nat) (C : Cx K G N ρ own cc nL fr lo) (hci : Ci K) (hs : sh lb = cO ci fds) (hN : lb < N) (hf : fds[j]? = some 0) (hc : vwC[ci]? = some (C1, T1, nF)) (hj : j < nF) (hin : ∀ w ∈ u_ws C1 T1 nF, w ∈ TB) (hty : ∀ k, k < nF → parseFieldDescriptor (T1 k).2.2.1 = some (ty0 k)) (hnm : ∀ a, a < nF → ∀ b, b < nF → a ≠ b → (T1 a).2.1 ≠ (T1 b).2.1) (hw : Cond.fieldLink own ix ref (T1 j).2.1 (T1 j).2.2.1 ∈ TB) (hr : ref = (T1 j).1) (hfi : (T1 j).2.2.2 = true) (hdc : (T1 j).1 = own) (hd : parseFieldDescriptor (T1 j).2.2.1 = some .int) (d : decode cc pc = .ok (.putfield ix, 3)) (hn : pc + 3 = n) (hz : -2147483648 ≤ z ∧ z ≤ 2147483647) (k : Ex K G N ρ sh n lv (st) (up σ lb j z)) : Ex K G N ρ sh pc lv (.int (iZ z) :: .ref (ρ lb) :: st) (σ) := by
  obtain ⟨p, l, e, R, s, m, args, below, meth, c, cells, slots, Q⟩ := K
  obtain ⟨hx, hb, hml, hown, hts, hlk, hK, hI, hO, hfr, hlo, hce, hsl, hN2⟩ := C
  subst hn; intro hR H locs ls hP hS hl
  subst hr
  have hlen : j < fds.length := (List.getElem?_eq_some_iff.mp hf).1
  refine va_putF (D := G.1) (C := C1) (T := T1) (N := nF) hx hb hts hin ty0 hty hnm hown hK hP (mkW_D hI) hS lb (mkW_at hN hs) hc j hj (hts _ hw) (fun _ h => h) hfi hci hdc hd (vp_nar_int _) rfl (by rw [fL_len]; exact hlen) d (fun H1 locs1 hP1 _ hS1 => k (Rng_up hR hz) H1 locs1 ls ?_ hS1 hl)
  have e := mkW_set (dA := G.2.1) (N := N) (ρ := ρ) (sh := sh) (σ := σ) (σ' := up σ lb j z) (k := lb) (e := .inr (ci, (fL ρ σ lb 0 fds).set j (.int (iZ z)))) ?_ ?_
  · rw [← e]; exact hP1
  · rw [hs, cE_O, fL_set (σ := σ) (v := .int (iZ z)) fds 0 j hlen]
    · intro i fd hi hij
      unfold fV
      split <;> simp [up, hij]
    · intro fd h
      rw [hf] at h
      obtain rfl := Option.some.inj h
      simp [fV, up]
  · intro i hi hik
    exact cE_row (up_row (by omega)) (up_row (by omega))
theorem x_aast0 {lb len q ci nF : Nat} {fds : List Nat} {f : Nat → Option Nat} {i : Int} {C1 : String} {T1 : u_T} (n : Nat) (C : Cx K G N ρ own cc nL fr lo) (hs : sh lb = cR 0 len f) (hN : lb < N) (hq : sh q = cO ci fds) (hqN : q < N) (hc : vwC[ci]? = some (C1, T1, nF)) (hC1 : C1 = "FirstSeen$Thing") (h1 : 0 ≤ i ∧ i < len) (hle : (len : Int) ≤ 2147483647) (d : decode cc pc = .ok (.aastore, 1)) (hn : pc + 1 = n) (k : Ex K G N ρ (su sh lb (cR 0 len (va_up f i.toNat (some q)))) n lv st σ) : Ex K G N ρ sh pc lv (.ref (ρ q) :: .int (iZ i) :: .ref (ρ lb) :: st) σ := by
  obtain ⟨p, l, e, R, s, m, args, below, meth, c, cells, slots, Q⟩ := K
  obtain ⟨hx, hb, hml, hown, hts, hlk, hK, hI, hO, hfr, hlo, hce, hsl, hN2⟩ := C
  subst hn; intro hR H locs ls hP hS hl
  subst hC1
  refine va_astq hx hb hK hP (mkW_D hI) hS lb 3 q ci ((mkW_at hN hs).trans (by rw [cE_R0])) rfl (mkW_at hqN hq) hc (iZ_in h1 (by omega)) d (fun H1 locs1 hP1 _ hS1 => k hR H1 locs1 ls ?_ hS1 hl)
  rw [← mkW_su]
  have e2 : cE G.2.1 ρ σ lb (cR 0 len (va_up f i.toNat (some q))) = .inl (G.2.1 3, len, .inr (.inr (.inr (.inr (va_up (fun i => (f i).map ρ) (iZ i).toNatClampNeg (some (ρ q))))))) := by
    rw [cE_R0, iZ_clamp (by omega)]
    refine congrArg (fun f => (Sum.inl (G.2.1 3, len, Sum.inr (Sum.inr (Sum.inr (Sum.inr f)))) : va_E)) (funext fun j => ?_)
    unfold va_up
    by_cases hj : j = i.toNat
    · rw [if_pos hj, if_pos hj]; rfl
    · rw [if_neg hj, if_neg hj]
  rw [e2]
  exact hP1
theorem x_aastO {lb len q ci nF : Nat} {fds : List Nat} {f : Nat → Option Nat} {i : Int} {C1 : String} {T1 : u_T} (n : Nat) (C : Cx K G N ρ own cc nL fr lo) (hs : sh lb = cR 0 len f) (hN : lb < N) (hq : sh q = cO ci fds) (hqN : q < N) (hc : vwC[ci]? = some (C1, T1, nF)) (hw : Cond.castable C1 "FirstSeen$Thing" ∈ NW) (h1 : 0 ≤ i ∧ i < len) (hle : (len : Int) ≤ 2147483647) (d : decode cc pc = .ok (.aastore, 1)) (hn : pc + 1 = n) (k : Ex K G N ρ (su sh lb (cR 0 len (va_up f i.toNat (some q)))) n lv st σ) : Ex K G N ρ sh pc lv (.ref (ρ q) :: .int (iZ i) :: .ref (ρ lb) :: st) σ := by
  obtain ⟨p, l, e, R, s, m, args, below, meth, c, cells, slots, Q⟩ := K
  obtain ⟨hx, hb, hml, hown, hts, hlk, hK, hI, hO, hfr, hlo, hce, hsl, hN2⟩ := C
  subst hn; intro hR H locs ls hP hS hl
  refine va_astqO hx hb hK hP (mkW_D hI) hS lb 3 q ci ((mkW_at hN hs).trans (by rw [cE_R0])) rfl (hO.2.2.2.2.2.2.1 _ hw) (mkW_at hqN hq) hc (iZ_in h1 (by omega)) d (fun H1 locs1 hP1 _ hS1 => k hR H1 locs1 ls ?_ hS1 hl)
  rw [← mkW_su]
  have e2 : cE G.2.1 ρ σ lb (cR 0 len (va_up f i.toNat (some q))) = .inl (G.2.1 3, len, .inr (.inr (.inr (.inr (va_up (fun i => (f i).map ρ) (iZ i).toNatClampNeg (some (ρ q))))))) := by
    rw [cE_R0, iZ_clamp (by omega)]
    refine congrArg (fun f => (Sum.inl (G.2.1 3, len, Sum.inr (Sum.inr (Sum.inr (Sum.inr f)))) : va_E)) (funext fun j => ?_)
    unfold va_up
    by_cases hj : j = i.toNat
    · rw [if_pos hj, if_pos hj]; rfl
    · rw [if_neg hj, if_neg hj]
  rw [e2]
  exact hP1
theorem x_aast1 {lb len q ci nF : Nat} {fds : List Nat} {f : Nat → Option Nat} {i : Int} {C1 : String} {T1 : u_T} (n : Nat) (C : Cx K G N ρ own cc nL fr lo) (hs : sh lb = cR 1 len f) (hN : lb < N) (hq : sh q = cO ci fds) (hqN : q < N) (hc : vwC[ci]? = some (C1, T1, nF)) (hC1 : C1 = "FirstSeen$Text") (h1 : 0 ≤ i ∧ i < len) (hle : (len : Int) ≤ 2147483647) (d : decode cc pc = .ok (.aastore, 1)) (hn : pc + 1 = n) (k : Ex K G N ρ (su sh lb (cR 1 len (va_up f i.toNat (some q)))) n lv st σ) : Ex K G N ρ sh pc lv (.ref (ρ q) :: .int (iZ i) :: .ref (ρ lb) :: st) σ := by
  obtain ⟨p, l, e, R, s, m, args, below, meth, c, cells, slots, Q⟩ := K
  obtain ⟨hx, hb, hml, hown, hts, hlk, hK, hI, hO, hfr, hlo, hce, hsl, hN2⟩ := C
  subst hn; intro hR H locs ls hP hS hl
  subst hC1
  refine va_astq hx hb hK hP (mkW_D hI) hS lb 4 q ci ((mkW_at hN hs).trans (by rw [cE_R1])) rfl (mkW_at hqN hq) hc (iZ_in h1 (by omega)) d (fun H1 locs1 hP1 _ hS1 => k hR H1 locs1 ls ?_ hS1 hl)
  rw [← mkW_su]
  have e2 : cE G.2.1 ρ σ lb (cR 1 len (va_up f i.toNat (some q))) = .inl (G.2.1 4, len, .inr (.inr (.inr (.inr (va_up (fun i => (f i).map ρ) (iZ i).toNatClampNeg (some (ρ q))))))) := by
    rw [cE_R1, iZ_clamp (by omega)]
    refine congrArg (fun f => (Sum.inl (G.2.1 4, len, Sum.inr (Sum.inr (Sum.inr (Sum.inr f)))) : va_E)) (funext fun j => ?_)
    unfold va_up
    by_cases hj : j = i.toNat
    · rw [if_pos hj, if_pos hj]; rfl
    · rw [if_neg hj, if_neg hj]
  rw [e2]
  exact hP1
theorem x_aast2 {lb len q ci nF : Nat} {fds : List Nat} {f : Nat → Option Nat} {i : Int} {C1 : String} {T1 : u_T} (n : Nat) (C : Cx K G N ρ own cc nL fr lo) (hs : sh lb = cR 2 len f) (hN : lb < N) (hq : sh q = cO ci fds) (hqN : q < N) (hc : vwC[ci]? = some (C1, T1, nF)) (hC1 : C1 = "FirstSeen$Sheet") (h1 : 0 ≤ i ∧ i < len) (hle : (len : Int) ≤ 2147483647) (d : decode cc pc = .ok (.aastore, 1)) (hn : pc + 1 = n) (k : Ex K G N ρ (su sh lb (cR 2 len (va_up f i.toNat (some q)))) n lv st σ) : Ex K G N ρ sh pc lv (.ref (ρ q) :: .int (iZ i) :: .ref (ρ lb) :: st) σ := by
  obtain ⟨p, l, e, R, s, m, args, below, meth, c, cells, slots, Q⟩ := K
  obtain ⟨hx, hb, hml, hown, hts, hlk, hK, hI, hO, hfr, hlo, hce, hsl, hN2⟩ := C
  subst hn; intro hR H locs ls hP hS hl
  subst hC1
  refine va_astq hx hb hK hP (mkW_D hI) hS lb 5 q ci ((mkW_at hN hs).trans (by rw [cE_R2])) rfl (mkW_at hqN hq) hc (iZ_in h1 (by omega)) d (fun H1 locs1 hP1 _ hS1 => k hR H1 locs1 ls ?_ hS1 hl)
  rw [← mkW_su]
  have e2 : cE G.2.1 ρ σ lb (cR 2 len (va_up f i.toNat (some q))) = .inl (G.2.1 5, len, .inr (.inr (.inr (.inr (va_up (fun i => (f i).map ρ) (iZ i).toNatClampNeg (some (ρ q))))))) := by
    rw [cE_R2, iZ_clamp (by omega)]
    refine congrArg (fun f => (Sum.inl (G.2.1 5, len, Sum.inr (Sum.inr (Sum.inr (Sum.inr f)))) : va_E)) (funext fun j => ?_)
    unfold va_up
    by_cases hj : j = i.toNat
    · rw [if_pos hj, if_pos hj]; rfl
    · rw [if_neg hj, if_neg hj]
  rw [e2]
  exact hP1
theorem x_objI {ix lb : Nat} (n : Nat) (C : Cx K G N ρ own cc nL fr lo) (w1 : Cond.methodLink own ix Lib.objectInit ∈ TB) (w2 : Cond.instanceMethod Lib.objectInit ∈ TB) (w3 : Cond.code Lib.objectInit ⟨#[0xb1]⟩ 1 none ∈ TB) (hlv : lv.length = nL) (hfr : 1 ≤ fr) (hlo : 20 ≤ lo) (h8 : (st.map fun v => v.category).sum ≤ 8) (d : decode cc pc = .ok (.invokespecial ix, 3)) (hn : pc + 3 = n) (k : Ex K G N ρ sh n lv st σ) : Ex K G N ρ sh pc lv (.ref (ρ lb) :: st) σ := by
  obtain ⟨p, l, e, R, s, m, args, below, meth, c, cells, slots, Q⟩ := K
  obtain ⟨hx, hb, hml, hown, hts, hlk, hK, hI, hO, hfr2, hlo2, hce, hsl, hN2⟩ := C
  subst hn; intro hR H locs ls hP hS hl
  refine W.objInit hx hb hown (hts _ w1) (hts _ w2) (hts _ w3) rfl (by rw [hml, ← hlv]; exact hl.1) rfl d (Nat.le_trans hfr hfr2) ?_ ?_
  · show 2 * (F0 m pc ls (.ref (ρ lb) :: st)).monitorRoom + _ + 12 ≤ R.locals
    have h0 : (F0 m pc ls (.ref (ρ lb) :: st)).monitorRoom = 0 := rfl
    rw [h0]
    omega
  · exact k hR H locs ls hP hS hl
end ROWS
def QXA (G : Gt) (N : Nat) (ρ : Nat → Nat) (post : Option Value → (Nat → Nat) → Nat → (Nat → Shc) → Sig → Prop) (sz : Nat) : Array Value → State → Outcome → State → Prop := fun _ st o t => (∃ (r : Option Value) (ρ' : Nat → Nat) (N' : Nat) (sh' : Nat → Shc) (σ' : Sig), o = .returned r ∧ post r ρ' N' sh' σ' ∧ Gr N N' ρ ρ' sz ∧ Wf N' sh' ∧ Rng σ' ∧ va_P G.1 vwC (mkW G.2.1 N' ρ' sh' σ') t.heap) ∧ va_F (AX N ρ sz) st t
/-- the contract of a method that makes at most mc cells of ms slots -/
def MXA (l : Launch) (y : MethodName) (cc : ByteArray) (nL : Nat) (ret : Option FieldType) (fr lo mc ms : Nat) (G : Gt) (N : Nat) (ρ : Nat → Nat) (sh : Nat → Shc) (av : List Value) (σ : Sig) (post : Option Value → (Nat → Nat) → Nat → (Nat → Shc) → Sig → Prop) : Prop :=
  ∀ sz : Nat, Met l y (Cond.code y cc nL ret :: TB) { frames := fr, cells := mc, slots := ms, locals := lo } (va_Pc av (fun U => U.heap.size = sz ∧ Rep G N ρ sh σ U)) (QXA G N ρ post sz) mc ms (AX N ρ sz)
def RtA (G : Gt) (N0 : Nat) (ρ0 : Nat → Nat) (ret : Option FieldType) (post : Option Value → (Nat → Nat) → Nat → (Nat → Shc) → Sig → Prop) (K : Mk) : Prop := match K with
  | (_, _, _, R, s, _, args, below, meth, _, _, _, Q) => meth.sig.returnType = ret ∧ Q = MQ below (QXA G N0 ρ0 post s.heap.size) args s R.cells R.slots (AX N0 ρ0 s.heap.size)
def RtI (G : Gt) (N0 : Nat) (ρ0 : Nat → Nat) (post : Option Value → (Nat → Nat) → Nat → (Nat → Shc) → Sig → Prop) (K : Mk) : Prop := RtA G N0 ρ0 none post K ∧ Ci K
theorem MXA_of {l : Launch} {y : MethodName} {cc : ByteArray} {nL : Nat} {ret : Option FieldType} {fr lo mc ms : Nat} {G : Gt} {N : Nat} {ρ : Nat → Nat} {sh : Nat → Shc} {av : List Value} {σ : Sig} {post : Option Value → (Nat → Nat) → Nat → (Nat → Shc) → Sig → Prop} (lv : List (Option Value)) (hwf : Wf N sh) (hy : plainName y.cls = true) (hlv : lv_args 0 av = dn 0 lv) (hlen : lv.length = nL) (hle : (lg_sl av).length ≤ nL)
    (body : ∀ K : Mk, K.2.1 = l → AL K G y.cls cc nL fr lo (RtA G N ρ ret post) N ρ N ρ sh mc ms → (y.name = "<init>" → Ci K) → Rng σ → Ex K G N ρ sh 0 lv [] σ) : MXA l y cc nL ret fr lo mc ms G N ρ sh av σ post := by
  intro sz
  refine Met.ofW (cc := cc) (maxL := nL) (ret := ret) hy rfl ?_
  intro p e s m args below meth c s₁ B hml hv
  obtain ⟨rfl, hsz, hN2, hI, hR, hP, hK, hO⟩ := hv
  have hts := atoms_spec (ws := Cond.code y cc nL ret :: TB) B.pre
  have hown : s.vm.findClass y.cls = some m.cls := findClass_of_methodNamed B.named
  have hin : meth.name = y.name := (name_of_methodNamed B.named B.method).1
  subst hsz
  have hl := lv_entry av (n := nL) hle
  rw [lg_entry_eq]
  rw [hlv] at hl
  refine W.eq rfl ?_
  refine body (p, l, e, { frames := fr, cells := mc, slots := ms, locals := lo }, s, m, av.toArray, below, meth, c, 0, 0, _) rfl ⟨⟨B.exec, B.bytes, hml, hown, fun w hw => hts w (List.mem_cons_of_mem _ hw), B.notSynchronized, hK, hI, hO, Nat.le_refl _, Nat.le_refl _, Nat.zero_le _, Nat.zero_le _, hN2⟩, ⟨B.returns, rfl⟩, fun K a b h => h, ⟨by rw [Nat.zero_add]; exact Nat.le_refl _, by rw [Nat.zero_add]; exact Nat.le_refl _⟩, Gr_refl hN2 hI, hwf⟩ (fun h => hin.trans h) hR hR s.heap [] _ hP va_S.rf (by rw [hlen]; exact hl)
theorem AL_I {K : Mk} {G : Gt} {own : String} {cc : ByteArray} {nL fr lo : Nat} {N0 : Nat} {ρ0 : Nat → Nat} {N : Nat} {ρ : Nat → Nat} {sh : Nat → Shc} {a b : Nat} {post : Option Value → (Nat → Nat) → Nat → (Nat → Shc) → Sig → Prop} (A : AL K G own cc nL fr lo (RtA G N0 ρ0 none post) N0 ρ0 N ρ sh a b) (h : Ci K) : AL K G own cc nL fr lo (RtI G N0 ρ0 post) N0 ρ0 N ρ sh a b := ⟨A.1, ⟨A.2.1, h⟩, fun K a b h => ⟨h.1, h.2⟩, A.2.2.2⟩
section ROWS2
variable {K : Mk} {G : Gt} {N : Nat} {ρ : Nat → Nat} {sh : Nat → Shc} {own : String} {cc : ByteArray} {nL fr lo : Nat} {pc n : Nat} {lv : List (Option Value)} {st : List Value} {σ : Sig}
variable {T : Mk → Prop} {N0 : Nat} {ρ0 : Nat → Nat} {a b : Nat} {lvf : (Nat → Nat) → List (Option Value)} {stf : (Nat → Nat) → List Value} {post : Option Value → (Nat → Nat) → Nat → (Nat → Shc) → Sig → Prop}
theorem x_vretA (A : AL K G own cc nL fr lo (RtI G N0 ρ0 post) N0 ρ0 N ρ sh a b) (d : decode cc pc = .ok (.return_, 1)) (hp : post none ρ N sh σ) : Ex K G N ρ sh pc lv [] σ := by
  obtain ⟨hC, ⟨hT, _⟩, hTk, hrm, hgr, hwf⟩ := A
  obtain ⟨p, l, e, R, s, m, args, below, meth, c, cells, slots, Q⟩ := K
  obtain ⟨hx, hb, hml, hown, hts, hlk, hK, hI, hO, hfr, hlo, hce, hsl, hN2⟩ := hC
  obtain ⟨hr, rfl⟩ := hT
  intro hR H locs ls hP hS hl
  rw [Gr_AX hgr] at hS
  exact W.widen hce hsl (W.vret hx hb hr (fun t ht hW => ⟨⟨none, ρ, N, sh, σ, rfl, hp, hgr, hwf, hR, by rw [ht]; exact hP⟩, hS.F ht⟩) hS.2.2 d hlk)
theorem x_iretA {z : Int} (A : AL K G own cc nL fr lo (RtA G N0 ρ0 (some .int) post) N0 ρ0 N ρ sh a b) (d : decode cc pc = .ok (.ireturn, 1)) (hp : post (some (.int (iZ z))) ρ N sh σ) : Ex K G N ρ sh pc lv [.int (iZ z)] σ := by
  obtain ⟨hC, hT, hTk, hrm, hgr, hwf⟩ := A
  obtain ⟨p, l, e, R, s, m, args, below, meth, c, cells, slots, Q⟩ := K
  obtain ⟨hx, hb, hml, hown, hts, hlk, hK, hI, hO, hfr, hlo, hce, hsl, hN2⟩ := hC
  obtain ⟨hr, rfl⟩ := hT
  intro hR H locs ls hP hS hl
  rw [Gr_AX hgr] at hS
  exact W.widen hce hsl (W.iret hx hb hr (fun t ht hW => ⟨⟨_, ρ, N, sh, σ, rfl, hp, hgr, hwf, hR, by rw [ht]; exact hP⟩, hS.F ht⟩) hS.2.2 d hlk)
theorem x_aretA {rtt : FieldType} {q : Nat} (A : AL K G own cc nL fr lo (RtA G N0 ρ0 (some rtt) post) N0 ρ0 N ρ sh a b) (d : decode cc pc = .ok (.areturn, 1)) (hrt : (∃ n, rtt = .object n) ∨ ∃ t, rtt = .array t) (hp : post (some (.ref (ρ q))) ρ N sh σ) : Ex K G N ρ sh pc lv [.ref (ρ q)] σ := by
  obtain ⟨hC, hT, hTk, hrm, hgr, hwf⟩ := A
  obtain ⟨p, l, e, R, s, m, args, below, meth, c, cells, slots, Q⟩ := K
  obtain ⟨hx, hb, hml, hown, hts, hlk, hK, hI, hO, hfr, hlo, hce, hsl, hN2⟩ := hC
  obtain ⟨hr, rfl⟩ := hT
  intro hR H locs ls hP hS hl
  rw [Gr_AX hgr] at hS
  exact W.widen hce hsl (W.aret hx hb hr hrt (Or.inr ⟨_, rfl⟩) (fun t ht hW => ⟨⟨_, ρ, N, sh, σ, rfl, hp, hgr, hwf, hR, by rw [ht]; exact hP⟩, hS.F ht⟩) hS.2.2 d hlk)
theorem x_nretA {rtt : FieldType} (A : AL K G own cc nL fr lo (RtA G N0 ρ0 (some rtt) post) N0 ρ0 N ρ sh a b) (d : decode cc pc = .ok (.areturn, 1)) (hrt : (∃ n, rtt = .object n) ∨ ∃ t, rtt = .array t) (hp : post (some .null) ρ N sh σ) : Ex K G N ρ sh pc lv [.null] σ := by
  obtain ⟨hC, hT, hTk, hrm, hgr, hwf⟩ := A
  obtain ⟨p, l, e, R, s, m, args, below, meth, c, cells, slots, Q⟩ := K
  obtain ⟨hx, hb, hml, hown, hts, hlk, hK, hI, hO, hfr, hlo, hce, hsl, hN2⟩ := hC
  obtain ⟨hr, rfl⟩ := hT
  intro hR H locs ls hP hS hl
  rw [Gr_AX hgr] at hS
  exact W.widen hce hsl (W.aret hx hb hr hrt (Or.inl rfl) (fun t ht hW => ⟨⟨_, ρ, N, sh, σ, rfl, hp, hgr, hwf, hR, by rw [ht]; exact hP⟩, hS.F ht⟩) hS.2.2 d hlk)

theorem x_callI {y : MethodName} {bytes : ByteArray} {mL fc lc ix : Nat} {st0 As : List Value} {na : Nat} {post : Option Value → Sig → Prop} {lb : Nat} (n : Nat) (C : Cx K G N ρ own cc nL fr lo) (d : decode cc pc = .ok (.invokespecial ix, 3)) (hn : pc + 3 = n) (hM : MX K.2.1 y bytes mL none fc lc G N ρ sh (.ref (ρ lb) :: As) σ post) (w1 : Cond.methodLink own ix y ∈ TB) (w2 : Cond.instanceMethod y ∈ TB) (w4 : Cond.initialized y.cls ∈ TB) (w5 : Cond.code y bytes mL none ∈ TB) (hy1 : y.name = "<init>") (hd : y.cls ≠ "java/lang/invoke/MethodHandle" ∧ y.cls ≠ "java/lang/invoke/VarHandle" ∧ (parseMethodDescriptor y.desc).map (fun d => d.parameters.length) = some na) (hna : As.length = na) (hro : fc + 1 ≤ fr ∧ 8 + (mL + 11) + lc ≤ lo) (hst : st0 = As.reverse ++ .ref (ρ lb) :: st) (h8 : (st.map fun v => v.category).sum ≤ 8) (hlv : lv.length = nL) (k : ∀ (r : Option Value) (σ1 : Sig), post r σ1 → Rng σ1 → Ex K G N ρ sh n lv (r.toList ++ st) σ1) : Ex K G N ρ sh pc lv st0 σ := by
  obtain ⟨p, l, e, R, s, m, args, below, meth, c, cells, slots, Q⟩ := K
  obtain ⟨hx, hb, hml, hown, hts, hlk, hK, hI, hO, hfr, hlo, hce, hsl, hN2⟩ := C
  subst hn; subst hst; intro hR H locs ls hP hS hl
  have hrun := va_runI (e := e) (below := below) (meth := meth) (As := As) (rest := st) (H := H) (locs := locs) (g := F0 m pc ls (As.reverse ++ .ref (ρ lb) :: st)) ⟨hx, hb, hml, hown, hts⟩ (hM H.size) (cwI (R := R) na hts (good_all w5) rfl rfl rfl (hts _ w4) (hts _ w1) (hts _ w2) hy1 hd ⟨Nat.le_trans hro.1 hfr, Nat.le_trans hro.2 hlo⟩) ⟨Rep_blind, fun U hU hW => ⟨rfl, by rw [hU], Rep_call hN2 hI hR hP hK hO hS hU hW⟩⟩ rfl hna (hl.1.trans hlv) rfl (lv_room h8) d ⟨hce, hsl⟩
  intro T hT X
  obtain ⟨v, st₀, t, T', L, h0, X', hL, e1, e2, ⟨⟨r, σ1, hv, hp, hR1, hP1⟩, hz, hk⟩, stp⟩ := hrun T hT X
  cases hv
  rw [h0] at hz hk
  obtain ⟨t2, a1, b1⟩ := k v σ1 hp hR1 hR1 T'.heap (locs ++ L) ls (by rw [e1]; exact hP1)
    ⟨Nat.le_trans hS.1 (by rw [e1]; exact hz), fun q h1 h2 => by rw [e1, hk q (Nat.lt_of_lt_of_le h1 hS.1) (fun z => h2 (AX_mono hS.1 q z))]; exact hS.2.1 q h1 h2, fun q hq => by
      rcases List.mem_append.mp hq with h | h
      · exact hS.2.2 q h
      · exact AX_mono hS.1 _ (hL q h)⟩ hl T' rfl X'
  exact ⟨t2, stp t2 a1, b1⟩
theorem x_callIA {y : MethodName} {bytes : ByteArray} {mL fc lc mc ms ix : Nat}  {st0 As : List Value} {na : Nat} {post : Option Value → (Nat → Nat) → Nat → (Nat → Shc) → Sig → Prop} {lb : Nat} (n : Nat) (A : AL K G own cc nL fr lo T N0 ρ0 N ρ sh (a + mc) (b + ms)) (d : decode cc pc = .ok (.invokespecial ix, 3)) (hn : pc + 3 = n) (hM : MXA K.2.1 y bytes mL none fc lc mc ms G N ρ sh (.ref (ρ lb) :: As) σ post) (w1 : Cond.methodLink own ix y ∈ TB) (w2 : Cond.instanceMethod y ∈ TB) (w4 : Cond.initialized y.cls ∈ TB) (w5 : Cond.code y bytes mL none ∈ TB) (hy1 : y.name = "<init>") (hd : y.cls ≠ "java/lang/invoke/MethodHandle" ∧ y.cls ≠ "java/lang/invoke/VarHandle" ∧ (parseMethodDescriptor y.desc).map (fun d => d.parameters.length) = some na) (hna : As.length = na) (hro : fc + 1 ≤ fr ∧ 8 + (mL + 11) + lc ≤ lo) (hst : st0 = As.reverse ++ .ref (ρ lb) :: st) (h8 : (st.map fun v => v.category).sum ≤ 8) (hlv : lv.length = nL) (hlw : ∀ ρ' : Nat → Nat, (∀ k, k < N → ρ' k = ρ k) → lvf ρ' = lv ∧ stf ρ' = st) (k : ∀ (K' : Mk) (r : Option Value) (ρ' : Nat → Nat) (N' : Nat) (sh' : Nat → Shc) (σ1 : Sig), K'.2.1 = K.2.1 → post r ρ' N' sh' σ1 → (∀ k, k < N → ρ' k = ρ k) → N ≤ N' → AL K' G own cc nL fr lo T N0 ρ0 N' ρ' sh' a b → Rng σ1 → Ex K' G N' ρ' sh' n (lvf ρ') (r.toList ++ stf ρ') σ1) : Ex K G N ρ sh pc lv st0 σ := by
  obtain ⟨hC, hT, hTk, hrm, hgr, hwf⟩ := id A
  obtain ⟨p, l, e, R, s, m, args, below, meth, c, cells, slots, Q⟩ := K
  obtain ⟨hx, hb, hml, hown, hts, hlk, hK, hI, hO, hfr, hlo, hce, hsl, hN2⟩ := hC
  subst hn; subst hst; intro hR H locs ls hP hS hl
  have hrun := va_runI (e := e) (below := below) (meth := meth) (As := As) (rest := st) (H := H) (locs := locs) (g := F0 m pc ls (As.reverse ++ .ref (ρ lb) :: st)) ⟨hx, hb, hml, hown, hts⟩ (hM H.size) (cwI (R := R) na hts (good_all w5) rfl rfl rfl (hts _ w4) (hts _ w1) (hts _ w2) hy1 hd ⟨Nat.le_trans hro.1 hfr, Nat.le_trans hro.2 hlo⟩) ⟨Rep_blind, fun U hU hW => ⟨rfl, by rw [hU], Rep_call hN2 hI hR hP hK hO hS hU hW⟩⟩ rfl hna (hl.1.trans hlv) rfl (lv_room h8) d (cells := cells) (slots := slots) ⟨by have := hrm.1; omega, by have := hrm.2; omega⟩
  intro T9 hT9 X
  obtain ⟨v, st₀, t, T', L, h0, X', hL, e1, e2, ⟨⟨r, ρ', N', sh', σ1, hv, hp, hg0, hwf1, hR1, hP1⟩, hz, hk⟩, stp⟩ := hrun T9 hT9 X
  cases hv
  rw [h0] at hz hk
  have hg : Gr N N' ρ ρ' s.heap.size := ⟨hg0.1, hg0.2.1, hg0.2.2.1, fun k h1 h2 => Nat.le_trans hS.1 (hg0.2.2.2.1 k h1 h2), hg0.2.2.2.2⟩
  obtain ⟨f1, f2⟩ := hlw _ hg.2.2.1
  have hk2 := k (kb (p, l, e, R, s, m, args, below, meth, c, cells, slots, Q) mc ms) v ρ' N' sh' σ1 rfl hp hg.2.2.1 hg.1 (AL_gr A hg hwf1) hR1 hR1 T'.heap (locs ++ L) ls (by rw [e1]; exact hP1)
  rw [f1, f2, Gr_AX hg] at hk2
  obtain ⟨t2, a1, b1⟩ := hk2
    ⟨Nat.le_trans hS.1 (by rw [e1]; exact hz), fun q h1 h2 => by rw [e1, hk q (Nat.lt_of_lt_of_le h1 hS.1) (fun z => h2 (AX_mono hS.1 q z))]; exact hS.2.1 q h1 h2, fun q hq => by
      rcases List.mem_append.mp hq with h | h
      · exact hS.2.2 q h
      · exact AX_mono hS.1 _ (hL q h)⟩ hl T' rfl X'
  exact ⟨t2, stp t2 a1, b1⟩
theorem x_callIN {y : MethodName} {bytes : ByteArray} {mL fc lc ix : Nat} {st0 As : List Value} {na : Nat} {post : Option Value → Sig → Prop} {lb : Nat} {host : String} (n : Nat) (C : Cx K G N ρ own cc nL fr lo) (d : decode cc pc = .ok (.invokespecial ix, 3)) (hn : pc + 3 = n) (hM : MX K.2.1 y bytes mL none fc lc G N ρ sh (.ref (ρ lb) :: As) σ post) (w1 : Cond.methodLinkNest own ix y host ∈ NW) (w2 : Cond.instanceMethod y ∈ TB) (w4 : Cond.initialized y.cls ∈ TB) (w5 : Cond.code y bytes mL none ∈ TB) (hy1 : y.name = "<init>") (hd : y.cls ≠ "java/lang/invoke/MethodHandle" ∧ y.cls ≠ "java/lang/invoke/VarHandle" ∧ (parseMethodDescriptor y.desc).map (fun d => d.parameters.length) = some na) (hna : As.length = na) (hro : fc + 1 ≤ fr ∧ 8 + (mL + 11) + lc ≤ lo) (hst : st0 = As.reverse ++ .ref (ρ lb) :: st) (h8 : (st.map fun v => v.category).sum ≤ 8) (hlv : lv.length = nL) (k : ∀ (r : Option Value) (σ1 : Sig), post r σ1 → Rng σ1 → Ex K G N ρ sh n lv (r.toList ++ st) σ1) : Ex K G N ρ sh pc lv st0 σ := by
  obtain ⟨p, l, e, R, s, m, args, below, meth, c, cells, slots, Q⟩ := K
  obtain ⟨hx, hb, hml, hown, hts, hlk, hK, hI, hO, hfr, hlo, hce, hsl, hN2⟩ := C
  subst hn; subst hst; intro hR H locs ls hP hS hl
  have hrun := va_runIN (e := e) (below := below) (meth := meth) (As := As) (rest := st) (H := H) (locs := locs) (g := F0 m pc ls (As.reverse ++ .ref (ρ lb) :: st)) ⟨hx, hb, hml, hown, hts⟩ (hM H.size) ⟨va_cnB (R := R) na hts (good_all w5) rfl rfl rfl (hO.2.2.2.2.2.2.1 _ w1) (hts _ w4) hd ⟨Nat.le_trans hro.1 hfr, Nat.le_trans hro.2 hlo⟩, hy1, hts _ w2⟩ ⟨Rep_blind, fun U hU hW => ⟨rfl, by rw [hU], Rep_call hN2 hI hR hP hK hO hS hU hW⟩⟩ rfl hna (hl.1.trans hlv) rfl (lv_room h8) d ⟨hce, hsl⟩
  intro T hT X
  obtain ⟨v, st₀, t, T', L, h0, X', hL, e1, e2, ⟨⟨r, σ1, hv, hp, hR1, hP1⟩, hz, hk⟩, stp⟩ := hrun T hT X
  cases hv
  rw [h0] at hz hk
  obtain ⟨t2, a1, b1⟩ := k v σ1 hp hR1 hR1 T'.heap (locs ++ L) ls (by rw [e1]; exact hP1)
    ⟨Nat.le_trans hS.1 (by rw [e1]; exact hz), fun q h1 h2 => by rw [e1, hk q (Nat.lt_of_lt_of_le h1 hS.1) (fun z => h2 (AX_mono hS.1 q z))]; exact hS.2.1 q h1 h2, fun q hq => by
      rcases List.mem_append.mp hq with h | h
      · exact hS.2.2 q h
      · exact AX_mono hS.1 _ (hL q h)⟩ hl T' rfl X'
  exact ⟨t2, stp t2 a1, b1⟩
theorem x_callINA {y : MethodName} {bytes : ByteArray} {mL fc lc mc ms ix : Nat}  {st0 As : List Value} {na : Nat} {post : Option Value → (Nat → Nat) → Nat → (Nat → Shc) → Sig → Prop} {lb : Nat} {host : String} (n : Nat) (A : AL K G own cc nL fr lo T N0 ρ0 N ρ sh (a + mc) (b + ms)) (d : decode cc pc = .ok (.invokespecial ix, 3)) (hn : pc + 3 = n) (hM : MXA K.2.1 y bytes mL none fc lc mc ms G N ρ sh (.ref (ρ lb) :: As) σ post) (w1 : Cond.methodLinkNest own ix y host ∈ NW) (w2 : Cond.instanceMethod y ∈ TB) (w4 : Cond.initialized y.cls ∈ TB) (w5 : Cond.code y bytes mL none ∈ TB) (hy1 : y.name = "<init>") (hd : y.cls ≠ "java/lang/invoke/MethodHandle" ∧ y.cls ≠ "java/lang/invoke/VarHandle" ∧ (parseMethodDescriptor y.desc).map (fun d => d.parameters.length) = some na) (hna : As.length = na) (hro : fc + 1 ≤ fr ∧ 8 + (mL + 11) + lc ≤ lo) (hst : st0 = As.reverse ++ .ref (ρ lb) :: st) (h8 : (st.map fun v => v.category).sum ≤ 8) (hlv : lv.length = nL) (hlw : ∀ ρ' : Nat → Nat, (∀ k, k < N → ρ' k = ρ k) → lvf ρ' = lv ∧ stf ρ' = st) (k : ∀ (K' : Mk) (r : Option Value) (ρ' : Nat → Nat) (N' : Nat) (sh' : Nat → Shc) (σ1 : Sig), K'.2.1 = K.2.1 → post r ρ' N' sh' σ1 → (∀ k, k < N → ρ' k = ρ k) → N ≤ N' → AL K' G own cc nL fr lo T N0 ρ0 N' ρ' sh' a b → Rng σ1 → Ex K' G N' ρ' sh' n (lvf ρ') (r.toList ++ stf ρ') σ1) : Ex K G N ρ sh pc lv st0 σ := by
  obtain ⟨hC, hT, hTk, hrm, hgr, hwf⟩ := id A
  obtain ⟨p, l, e, R, s, m, args, below, meth, c, cells, slots, Q⟩ := K
  obtain ⟨hx, hb, hml, hown, hts, hlk, hK, hI, hO, hfr, hlo, hce, hsl, hN2⟩ := hC
  subst hn; subst hst; intro hR H locs ls hP hS hl
  have hrun := va_runIN (e := e) (below := below) (meth := meth) (As := As) (rest := st) (H := H) (locs := locs) (g := F0 m pc ls (As.reverse ++ .ref (ρ lb) :: st)) ⟨hx, hb, hml, hown, hts⟩ (hM H.size) ⟨va_cnB (R := R) na hts (good_all w5) rfl rfl rfl (hO.2.2.2.2.2.2.1 _ w1) (hts _ w4) hd ⟨Nat.le_trans hro.1 hfr, Nat.le_trans hro.2 hlo⟩, hy1, hts _ w2⟩ ⟨Rep_blind, fun U hU hW => ⟨rfl, by rw [hU], Rep_call hN2 hI hR hP hK hO hS hU hW⟩⟩ rfl hna (hl.1.trans hlv) rfl (lv_room h8) d (cells := cells) (slots := slots) ⟨by have := hrm.1; omega, by have := hrm.2; omega⟩
  intro T9 hT9 X
  obtain ⟨v, st₀, t, T', L, h0, X', hL, e1, e2, ⟨⟨r, ρ', N', sh', σ1, hv, hp, hg0, hwf1, hR1, hP1⟩, hz, hk⟩, stp⟩ := hrun T9 hT9 X
  cases hv
  rw [h0] at hz hk
  have hg : Gr N N' ρ ρ' s.heap.size := ⟨hg0.1, hg0.2.1, hg0.2.2.1, fun k h1 h2 => Nat.le_trans hS.1 (hg0.2.2.2.1 k h1 h2), hg0.2.2.2.2⟩
  obtain ⟨f1, f2⟩ := hlw _ hg.2.2.1
  have hk2 := k (kb (p, l, e, R, s, m, args, below, meth, c, cells, slots, Q) mc ms) v ρ' N' sh' σ1 rfl hp hg.2.2.1 hg.1 (AL_gr A hg hwf1) hR1 hR1 T'.heap (locs ++ L) ls (by rw [e1]; exact hP1)
  rw [f1, f2, Gr_AX hg] at hk2
  obtain ⟨t2, a1, b1⟩ := hk2
    ⟨Nat.le_trans hS.1 (by rw [e1]; exact hz), fun q h1 h2 => by rw [e1, hk q (Nat.lt_of_lt_of_le h1 hS.1) (fun z => h2 (AX_mono hS.1 q z))]; exact hS.2.1 q h1 h2, fun q hq => by
      rcases List.mem_append.mp hq with h | h
      · exact hS.2.2 q h
      · exact AX_mono hS.1 _ (hL q h)⟩ hl T' rfl X'
  exact ⟨t2, stp t2 a1, b1⟩
theorem x_callVA {y : MethodName} {bytes : ByteArray} {mL fc lc mc ms ix : Nat} {rt : Option FieldType} {st0 As : List Value} {na : Nat} {post : Option Value → (Nat → Nat) → Nat → (Nat → Shc) → Sig → Prop} {ci nF lb : Nat} {fds : List Nat} {C1 : String} {T1 : u_T} (n : Nat) (A : AL K G own cc nL fr lo T N0 ρ0 N ρ sh (a + mc) (b + ms)) (d : decode cc pc = .ok (.invokevirtual ix, 3)) (hn : pc + 3 = n) (hM : MXA K.2.1 y bytes mL rt fc lc mc ms G N ρ sh (.ref (ρ lb) :: As) σ post) (hs : sh lb = cO ci fds) (hN : lb < N) (hc : vwC[ci]? = some (C1, T1, nF)) (w1 : Cond.methodLink own ix y ∈ TB) (w2 : Cond.instanceMethod y ∈ TB) (w3 : Cond.selects C1 y y ∈ TB) (w4 : Cond.initialized C1 ∈ TB) (w5 : Cond.code y bytes mL rt ∈ TB) (hd : y.cls = C1 ∧ y.cls ≠ "java/lang/invoke/MethodHandle" ∧ y.cls ≠ "java/lang/invoke/VarHandle" ∧ (parseMethodDescriptor y.desc).map (fun d => d.parameters.length) = some na) (hna : As.length = na) (hro : fc + 1 ≤ fr ∧ 8 + (mL + 11) + lc ≤ lo) (hst : st0 = As.reverse ++ .ref (ρ lb) :: st) (h8 : (st.map fun v => v.category).sum ≤ 8) (hlv : lv.length = nL) (hlw : ∀ ρ' : Nat → Nat, (∀ k, k < N → ρ' k = ρ k) → lvf ρ' = lv ∧ stf ρ' = st) (k : ∀ (K' : Mk) (r : Option Value) (ρ' : Nat → Nat) (N' : Nat) (sh' : Nat → Shc) (σ1 : Sig), K'.2.1 = K.2.1 → post r ρ' N' sh' σ1 → (∀ k, k < N → ρ' k = ρ k) → N ≤ N' → AL K' G own cc nL fr lo T N0 ρ0 N' ρ' sh' a b → Rng σ1 → Ex K' G N' ρ' sh' n (lvf ρ') (r.toList ++ stf ρ') σ1) : Ex K G N ρ sh pc lv st0 σ := by
  obtain ⟨hC, hT, hTk, hrm, hgr, hwf⟩ := id A
  obtain ⟨p, l, e, R, s, m, args, below, meth, c, cells, slots, Q⟩ := K
  obtain ⟨hx, hb, hml, hown, hts, hlk, hK, hI, hO, hfr, hlo, hce, hsl, hN2⟩ := hC
  subst hn; subst hst; intro hR H locs ls hP hS hl
  have hrun := va_runV (e := e) (below := below) (meth := meth) (As := As) (rest := st) (H := H) (locs := locs) (g := F0 m pc ls (As.reverse ++ .ref (ρ lb) :: st)) ⟨hx, hb, hml, hown, hts⟩ (hM H.size) (cwV (R := R) na hts (good_app (good_4 w1 w2 w3 w4) (good_all w5)) rfl rfl rfl hd ⟨Nat.le_trans hro.1 hfr, Nat.le_trans hro.2 hlo⟩) ⟨Rep_blind, va_recv hK hP hc (mkW_at hN hs), fun U hU hW => ⟨rfl, by rw [hU], Rep_call hN2 hI hR hP hK hO hS hU hW⟩⟩ rfl hna (hl.1.trans hlv) rfl (lv_room h8) d (cells := cells) (slots := slots) ⟨by have := hrm.1; omega, by have := hrm.2; omega⟩
  intro T9 hT9 X
  obtain ⟨v, st₀, t, T', L, h0, X', hL, e1, e2, ⟨⟨r, ρ', N', sh', σ1, hv, hp, hg0, hwf1, hR1, hP1⟩, hz, hk⟩, stp⟩ := hrun T9 hT9 X
  cases hv
  rw [h0] at hz hk
  have hg : Gr N N' ρ ρ' s.heap.size := ⟨hg0.1, hg0.2.1, hg0.2.2.1, fun k h1 h2 => Nat.le_trans hS.1 (hg0.2.2.2.1 k h1 h2), hg0.2.2.2.2⟩
  obtain ⟨f1, f2⟩ := hlw _ hg.2.2.1
  have hk2 := k (kb (p, l, e, R, s, m, args, below, meth, c, cells, slots, Q) mc ms) v ρ' N' sh' σ1 rfl hp hg.2.2.1 hg.1 (AL_gr A hg hwf1) hR1 hR1 T'.heap (locs ++ L) ls (by rw [e1]; exact hP1)
  rw [f1, f2, Gr_AX hg] at hk2
  obtain ⟨t2, a1, b1⟩ := hk2
    ⟨Nat.le_trans hS.1 (by rw [e1]; exact hz), fun q h1 h2 => by rw [e1, hk q (Nat.lt_of_lt_of_le h1 hS.1) (fun z => h2 (AX_mono hS.1 q z))]; exact hS.2.1 q h1 h2, fun q hq => by
      rcases List.mem_append.mp hq with h | h
      · exact hS.2.2 q h
      · exact AX_mono hS.1 _ (hL q h)⟩ hl T' rfl X'
  exact ⟨t2, stp t2 a1, b1⟩
theorem x_callTA {y : MethodName} {bytes : ByteArray} {mL fc lc mc ms ix : Nat} {rt : Option FieldType} {st0 As : List Value} {na : Nat} {post : Option Value → (Nat → Nat) → Nat → (Nat → Shc) → Sig → Prop}  (n : Nat) (A : AL K G own cc nL fr lo T N0 ρ0 N ρ sh (a + mc) (b + ms)) (d : decode cc pc = .ok (.invokestatic ix, 3)) (hn : pc + 3 = n) (hM : MXA K.2.1 y bytes mL rt fc lc mc ms G N ρ sh As σ post) (w1 : Cond.methodLink own ix y ∈ TB) (w2 : Cond.static y ∈ TB) (w4 : Cond.initialized y.cls ∈ TB) (w5 : Cond.code y bytes mL rt ∈ TB) (hd : y.cls ≠ "java/lang/invoke/MethodHandle" ∧ y.cls ≠ "java/lang/invoke/VarHandle" ∧ (parseMethodDescriptor y.desc).map (fun d => d.parameters.length) = some na) (hna : As.length = na) (hro : fc + 1 ≤ fr ∧ 8 + (mL + 11) + lc ≤ lo) (hst : st0 = As.reverse ++ st) (h8 : (st.map fun v => v.category).sum ≤ 8) (hlv : lv.length = nL) (hlw : ∀ ρ' : Nat → Nat, (∀ k, k < N → ρ' k = ρ k) → lvf ρ' = lv ∧ stf ρ' = st) (k : ∀ (K' : Mk) (r : Option Value) (ρ' : Nat → Nat) (N' : Nat) (sh' : Nat → Shc) (σ1 : Sig), K'.2.1 = K.2.1 → post r ρ' N' sh' σ1 → (∀ k, k < N → ρ' k = ρ k) → N ≤ N' → AL K' G own cc nL fr lo T N0 ρ0 N' ρ' sh' a b → Rng σ1 → Ex K' G N' ρ' sh' n (lvf ρ') (r.toList ++ stf ρ') σ1) : Ex K G N ρ sh pc lv st0 σ := by
  obtain ⟨hC, hT, hTk, hrm, hgr, hwf⟩ := id A
  obtain ⟨p, l, e, R, s, m, args, below, meth, c, cells, slots, Q⟩ := K
  obtain ⟨hx, hb, hml, hown, hts, hlk, hK, hI, hO, hfr, hlo, hce, hsl, hN2⟩ := hC
  subst hn; subst hst; intro hR H locs ls hP hS hl
  have hrun := va_runS (e := e) (below := below) (meth := meth) (As := As) (rest := st) (H := H) (locs := locs) (g := F0 m pc ls (As.reverse ++ st)) ⟨hx, hb, hml, hown, hts⟩ (hM H.size) ⟨callB_of (R := R) na hts (good_all w5) rfl rfl rfl (hts _ w4) (hts _ w1) hd ⟨Nat.le_trans hro.1 hfr, Nat.le_trans hro.2 hlo⟩, hts _ w2⟩ ⟨Rep_blind, fun U hU hW => ⟨rfl, by rw [hU], Rep_call hN2 hI hR hP hK hO hS hU hW⟩⟩ rfl hna (hl.1.trans hlv) rfl (lv_room h8) d (cells := cells) (slots := slots) ⟨by have := hrm.1; omega, by have := hrm.2; omega⟩
  intro T9 hT9 X
  obtain ⟨v, st₀, t, T', L, h0, X', hL, e1, e2, ⟨⟨r, ρ', N', sh', σ1, hv, hp, hg0, hwf1, hR1, hP1⟩, hz, hk⟩, stp⟩ := hrun T9 hT9 X
  cases hv
  rw [h0] at hz hk
  have hg : Gr N N' ρ ρ' s.heap.size := ⟨hg0.1, hg0.2.1, hg0.2.2.1, fun k h1 h2 => Nat.le_trans hS.1 (hg0.2.2.2.1 k h1 h2), hg0.2.2.2.2⟩
  obtain ⟨f1, f2⟩ := hlw _ hg.2.2.1
  have hk2 := k (kb (p, l, e, R, s, m, args, below, meth, c, cells, slots, Q) mc ms) v ρ' N' sh' σ1 rfl hp hg.2.2.1 hg.1 (AL_gr A hg hwf1) hR1 hR1 T'.heap (locs ++ L) ls (by rw [e1]; exact hP1)
  rw [f1, f2, Gr_AX hg] at hk2
  obtain ⟨t2, a1, b1⟩ := hk2
    ⟨Nat.le_trans hS.1 (by rw [e1]; exact hz), fun q h1 h2 => by rw [e1, hk q (Nat.lt_of_lt_of_le h1 hS.1) (fun z => h2 (AX_mono hS.1 q z))]; exact hS.2.1 q h1 h2, fun q hq => by
      rcases List.mem_append.mp hq with h | h
      · exact hS.2.2 q h
      · exact AX_mono hS.1 _ (hL q h)⟩ hl T' rfl X'
  exact ⟨t2, stp t2 a1, b1⟩
end ROWS2