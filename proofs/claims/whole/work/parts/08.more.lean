theorem lZ_add (x y : Int) : lZ x + lZ y = lZ (x + y) := (Int64.ofInt_add x y).symm
theorem lZ_sub (x y : Int) : lZ x - lZ y = lZ (x - y) := (Int64.ofInt_sub x y).symm
theorem lZ_mul (x y : Int) : lZ x * lZ y = lZ (x * y) := (Int64.ofInt_mul x y).symm
theorem lZ_toInt {x : Int} (h : -9223372036854775808 ≤ x ∧ x ≤ 9223372036854775807) : (lZ x).toInt = x := Int64.toInt_ofInt_of_le h.1 (by omega)
theorem lZ_i {x : Int} (h : -2147483648 ≤ x ∧ x ≤ 2147483647) : (iZ x).toInt64 = lZ x := by
  apply Int64.toInt_inj.mp
  rw [Int32.toInt_toInt64, iZ_toInt h, lZ_toInt (by omega)]
theorem iZ_l {x : Int} (h : -9223372036854775808 ≤ x ∧ x ≤ 9223372036854775807) : (lZ x).toInt32 = iZ x := by
  apply Int32.toInt_inj.mp
  rw [Int64.toInt_toInt32, lZ_toInt h]
  unfold iZ
  rw [Int32.toInt_ofInt]
theorem lZ_div {x y : Int} (hx : 0 ≤ x ∧ x ≤ 9223372036854775807) (hy : 0 < y ∧ y ≤ 9223372036854775807) : lZ x / lZ y = lZ (x / y) := by
  apply Int64.toInt_inj.mp
  have h := div_in hx.1 hy.1
  rw [Int64.toInt_div, lZ_toInt (by omega), lZ_toInt (by omega), lZ_toInt (by omega), Int.tdiv_eq_ediv_of_nonneg hx.1]
  exact Int.bmod_eq_of_le (by omega) (by omega)
theorem lZ_ne0 {y : Int} (hy : 0 < y ∧ y ≤ 9223372036854775807) : ¬ lZ y = 0 := by
  intro h
  have h1 := congrArg Int64.toInt h
  rw [lZ_toInt (by omega)] at h1
  rw [show (0 : Int64).toInt = 0 from rfl] at h1
  omega
theorem lZ_rem {x y : Int} (hx : 0 ≤ x ∧ x ≤ 9223372036854775807) (hy : 0 < y ∧ y ≤ 9223372036854775807) : lZ x - lZ x / lZ y * lZ y = lZ (x % y) := by
  rw [lZ_div hx hy, lZ_mul, lZ_sub, Int.emod_def, Int.mul_comm]
def cmpZ (x y : Int) : Int := if x > y then 1 else if x = y then 0 else -1
theorem lZ_cmp {x y : Int} (hx : -9223372036854775808 ≤ x ∧ x ≤ 9223372036854775807) (hy : -9223372036854775808 ≤ y ∧ y ≤ 9223372036854775807) : lg_cmp (lZ x) (lZ y) = iZ (cmpZ x y) := by
  unfold lg_cmp cmpZ
  simp only [gt_iff_lt, Int64.lt_iff_toInt_lt, ← Int64.toInt_inj, lZ_toInt hx, lZ_toInt hy]
  split
  · rfl
  · split <;> rfl
theorem cmpZ_in (x y : Int) : -2147483648 ≤ cmpZ x y ∧ cmpZ x y ≤ 2147483647 := by unfold cmpZ; split <;> (try split) <;> omega
theorem cmpZ_lt {x y : Int} : (cmpZ x y < 0) = (x < y) := by unfold cmpZ; apply propext; split <;> (try split) <;> omega
theorem cmpZ_gt {x y : Int} : (0 < cmpZ x y) = (y < x) := by unfold cmpZ; apply propext; split <;> (try split) <;> omega
theorem cmpZ_eq {x y : Int} : (cmpZ x y = 0) = (x = y) := by unfold cmpZ; apply propext; split <;> (try split) <;> omega

section ROWS
variable {K : Mk} {G : Gt} {N : Nat} {ρ : Nat → Nat} {sh : Nat → Shc} {own : String} {cc : ByteArray} {nL fr lo : Nat} {pc n : Nat} {lv : List (Option Value)} {st : List Value} {σ : Sig}
variable {ret : Option FieldType} {post : Option Value → Sig → Prop}
theorem x_ladd {x y : Int} (n : Nat) (C : Cx K G N ρ own cc nL fr lo) (d : decode cc pc = .ok (.ladd, 1)) (hn : pc + 1 = n) (k : Ex K G N ρ sh n lv (.long (lZ (x + y)) :: st) (σ)) : Ex K G N ρ sh pc lv (.long (lZ y) :: .long (lZ x) :: st) (σ) := by
  obtain ⟨p, l, e, R, s, m, args, below, meth, c, cells, slots, Q⟩ := K
  obtain ⟨hx, hb, hml, hown, hts, hlk, hK, hI, hO, hfr, hlo, hce, hsl, hN2⟩ := C
  subst hn; intro hR H locs ls hP hS hl
  refine lv_ladd hx hb d ?_
  rw [lZ_add]
  exact k hR H locs ls hP hS hl
theorem x_lsub {x y : Int} (n : Nat) (C : Cx K G N ρ own cc nL fr lo) (d : decode cc pc = .ok (.lsub, 1)) (hn : pc + 1 = n) (k : Ex K G N ρ sh n lv (.long (lZ (x - y)) :: st) (σ)) : Ex K G N ρ sh pc lv (.long (lZ y) :: .long (lZ x) :: st) (σ) := by
  obtain ⟨p, l, e, R, s, m, args, below, meth, c, cells, slots, Q⟩ := K
  obtain ⟨hx, hb, hml, hown, hts, hlk, hK, hI, hO, hfr, hlo, hce, hsl, hN2⟩ := C
  subst hn; intro hR H locs ls hP hS hl
  refine lv_lsub hx hb d ?_
  rw [lZ_sub]
  exact k hR H locs ls hP hS hl
theorem x_lmul {x y : Int} (n : Nat) (C : Cx K G N ρ own cc nL fr lo) (d : decode cc pc = .ok (.lmul, 1)) (hn : pc + 1 = n) (k : Ex K G N ρ sh n lv (.long (lZ (x * y)) :: st) (σ)) : Ex K G N ρ sh pc lv (.long (lZ y) :: .long (lZ x) :: st) (σ) := by
  obtain ⟨p, l, e, R, s, m, args, below, meth, c, cells, slots, Q⟩ := K
  obtain ⟨hx, hb, hml, hown, hts, hlk, hK, hI, hO, hfr, hlo, hce, hsl, hN2⟩ := C
  subst hn; intro hR H locs ls hP hS hl
  refine lv_lmul hx hb d ?_
  rw [lZ_mul]
  exact k hR H locs ls hP hS hl
theorem x_ldiv {x y : Int} (n : Nat) (C : Cx K G N ρ own cc nL fr lo) (d : decode cc pc = .ok (.ldiv, 1)) (hn : pc + 1 = n) (h1 : 0 ≤ x ∧ x ≤ 9223372036854775807) (h2 : 0 < y ∧ y ≤ 9223372036854775807) (k : Ex K G N ρ sh n lv (.long (lZ (x / y)) :: st) (σ)) : Ex K G N ρ sh pc lv (.long (lZ y) :: .long (lZ x) :: st) (σ) := by
  obtain ⟨p, l, e, R, s, m, args, below, meth, c, cells, slots, Q⟩ := K
  obtain ⟨hx, hb, hml, hown, hts, hlk, hK, hI, hO, hfr, hlo, hce, hsl, hN2⟩ := C
  subst hn; intro hR H locs ls hP hS hl
  refine lv_ldiv hx hb d (lZ_ne0 h2) ?_
  rw [lZ_div h1 h2]
  exact k hR H locs ls hP hS hl
theorem x_lrem {x y : Int} (n : Nat) (C : Cx K G N ρ own cc nL fr lo) (d : decode cc pc = .ok (.lrem, 1)) (hn : pc + 1 = n) (h1 : 0 ≤ x ∧ x ≤ 9223372036854775807) (h2 : 0 < y ∧ y ≤ 9223372036854775807) (k : Ex K G N ρ sh n lv (.long (lZ (x % y)) :: st) (σ)) : Ex K G N ρ sh pc lv (.long (lZ y) :: .long (lZ x) :: st) (σ) := by
  obtain ⟨p, l, e, R, s, m, args, below, meth, c, cells, slots, Q⟩ := K
  obtain ⟨hx, hb, hml, hown, hts, hlk, hK, hI, hO, hfr, hlo, hce, hsl, hN2⟩ := C
  subst hn; intro hR H locs ls hP hS hl
  refine lv_lrem hx hb d (lZ_ne0 h2) ?_
  rw [lZ_rem h1 h2]
  exact k hR H locs ls hP hS hl
theorem x_i2l {x : Int} (n : Nat) (C : Cx K G N ρ own cc nL fr lo) (d : decode cc pc = .ok (.i2l, 1)) (hn : pc + 1 = n) (h1 : -2147483648 ≤ x ∧ x ≤ 2147483647) (k : Ex K G N ρ sh n lv (.long (lZ x) :: st) (σ)) : Ex K G N ρ sh pc lv (.int (iZ x) :: st) (σ) := by
  obtain ⟨p, l, e, R, s, m, args, below, meth, c, cells, slots, Q⟩ := K
  obtain ⟨hx, hb, hml, hown, hts, hlk, hK, hI, hO, hfr, hlo, hce, hsl, hN2⟩ := C
  subst hn; intro hR H locs ls hP hS hl
  exact lv_i2l hx hb d (lZ_i h1) (k hR H locs ls hP hS hl)
theorem x_l2i {x : Int} (n : Nat) (C : Cx K G N ρ own cc nL fr lo) (d : decode cc pc = .ok (.l2i, 1)) (hn : pc + 1 = n) (h1 : -9223372036854775808 ≤ x ∧ x ≤ 9223372036854775807) (k : Ex K G N ρ sh n lv (.int (iZ x) :: st) (σ)) : Ex K G N ρ sh pc lv (.long (lZ x) :: st) (σ) := by
  obtain ⟨p, l, e, R, s, m, args, below, meth, c, cells, slots, Q⟩ := K
  obtain ⟨hx, hb, hml, hown, hts, hlk, hK, hI, hO, hfr, hlo, hce, hsl, hN2⟩ := C
  subst hn; intro hR H locs ls hP hS hl
  exact lv_l2i hx hb d (iZ_l h1) (k hR H locs ls hP hS hl)
theorem x_lcmp {x y : Int} (n : Nat) (C : Cx K G N ρ own cc nL fr lo) (d : decode cc pc = .ok (.lcmp, 1)) (hn : pc + 1 = n) (h1 : -9223372036854775808 ≤ x ∧ x ≤ 9223372036854775807) (h2 : -9223372036854775808 ≤ y ∧ y ≤ 9223372036854775807) (k : Ex K G N ρ sh n lv (.int (iZ (cmpZ x y)) :: st) (σ)) : Ex K G N ρ sh pc lv (.long (lZ y) :: .long (lZ x) :: st) (σ) := by
  obtain ⟨p, l, e, R, s, m, args, below, meth, c, cells, slots, Q⟩ := K
  obtain ⟨hx, hb, hml, hown, hts, hlk, hK, hI, hO, hfr, hlo, hce, hsl, hN2⟩ := C
  subst hn; intro hR H locs ls hP hS hl
  refine W.lcmp hx hb d ?_
  rw [lZ_cmp h1 h2]
  exact k hR H locs ls hP hS hl
theorem x_lif_lt {x y off : Int} (tgt n : Nat) (C : Cx K G N ρ own cc nL fr lo) (d : decode cc pc = .ok (.ifCond .lt off, 3)) (hn : pc + 3 = n) (ht : (pc : Int) + off = (tgt : Int)) (kt : x < y → Ex K G N ρ sh tgt lv (st) (σ)) (kf : ¬ (x < y) → Ex K G N ρ sh n lv (st) (σ)) : Ex K G N ρ sh pc lv (.int (iZ (cmpZ x y)) :: st) (σ) := x_if_lt tgt n C d hn ht (cmpZ_in x y) (fun h => kt (by rwa [cmpZ_lt] at h)) (fun h => kf (by rwa [cmpZ_lt] at h))
theorem x_lif_gt {x y off : Int} (tgt n : Nat) (C : Cx K G N ρ own cc nL fr lo) (d : decode cc pc = .ok (.ifCond .gt off, 3)) (hn : pc + 3 = n) (ht : (pc : Int) + off = (tgt : Int)) (kt : y < x → Ex K G N ρ sh tgt lv (st) (σ)) (kf : ¬ (y < x) → Ex K G N ρ sh n lv (st) (σ)) : Ex K G N ρ sh pc lv (.int (iZ (cmpZ x y)) :: st) (σ) := x_if_gt tgt n C d hn ht (cmpZ_in x y) (fun h => kt (by rwa [cmpZ_gt] at h)) (fun h => kf (by rwa [cmpZ_gt] at h))
theorem x_lif_eq {x y off : Int} (tgt n : Nat) (C : Cx K G N ρ own cc nL fr lo) (d : decode cc pc = .ok (.ifCond .eq off, 3)) (hn : pc + 3 = n) (ht : (pc : Int) + off = (tgt : Int)) (kt : x = y → Ex K G N ρ sh tgt lv (st) (σ)) (kf : ¬ (x = y) → Ex K G N ρ sh n lv (st) (σ)) : Ex K G N ρ sh pc lv (.int (iZ (cmpZ x y)) :: st) (σ) := x_if_eq tgt n C d hn ht (cmpZ_in x y) (fun h => kt (by rwa [cmpZ_eq] at h)) (fun h => kf (by rwa [cmpZ_eq] at h))
theorem x_lif_ge {x y off : Int} (tgt n : Nat) (C : Cx K G N ρ own cc nL fr lo) (d : decode cc pc = .ok (.ifCond .ge off, 3)) (hn : pc + 3 = n) (ht : (pc : Int) + off = (tgt : Int)) (kt : y ≤ x → Ex K G N ρ sh tgt lv (st) (σ)) (kf : ¬ (y ≤ x) → Ex K G N ρ sh n lv (st) (σ)) : Ex K G N ρ sh pc lv (.int (iZ (cmpZ x y)) :: st) (σ) := x_if_ge tgt n C d hn ht (cmpZ_in x y) (fun h => kt (by have e := @cmpZ_lt x y; rw [← Int.not_lt, e] at h; omega)) (fun h => kf (by have e := @cmpZ_lt x y; rw [Int.not_le, e] at h; omega))
theorem x_lif_le {x y off : Int} (tgt n : Nat) (C : Cx K G N ρ own cc nL fr lo) (d : decode cc pc = .ok (.ifCond .le off, 3)) (hn : pc + 3 = n) (ht : (pc : Int) + off = (tgt : Int)) (kt : x ≤ y → Ex K G N ρ sh tgt lv (st) (σ)) (kf : ¬ (x ≤ y) → Ex K G N ρ sh n lv (st) (σ)) : Ex K G N ρ sh pc lv (.int (iZ (cmpZ x y)) :: st) (σ) := x_if_le tgt n C d hn ht (cmpZ_in x y) (fun h => kt (by have e := @cmpZ_gt x y; rw [← Int.not_lt, e] at h; omega)) (fun h => kf (by have e := @cmpZ_gt x y; rw [Int.not_le, e] at h; omega))
theorem x_lif_ne {x y off : Int} (tgt n : Nat) (C : Cx K G N ρ own cc nL fr lo) (d : decode cc pc = .ok (.ifCond .ne off, 3)) (hn : pc + 3 = n) (ht : (pc : Int) + off = (tgt : Int)) (kt : x ≠ y → Ex K G N ρ sh tgt lv (st) (σ)) (kf : x = y → Ex K G N ρ sh n lv (st) (σ)) : Ex K G N ρ sh pc lv (.int (iZ (cmpZ x y)) :: st) (σ) := x_if_ne tgt n C d hn ht (cmpZ_in x y) (fun h => kt (by intro e; exact h (by rw [cmpZ_eq]; exact e))) (fun h => kf (by rwa [cmpZ_eq] at h))
theorem x_null (n : Nat) (C : Cx K G N ρ own cc nL fr lo) (d : decode cc pc = .ok (.aconst_null, 1)) (hn : pc + 1 = n) (k : Ex K G N ρ sh n lv (.null :: st) (σ)) : Ex K G N ρ sh pc lv (st) (σ) := by
  obtain ⟨p, l, e, R, s, m, args, below, meth, c, cells, slots, Q⟩ := K
  obtain ⟨hx, hb, hml, hown, hts, hlk, hK, hI, hO, hfr, hlo, hce, hsl, hN2⟩ := C
  subst hn; intro hR H locs ls hP hS hl
  exact lv_null hx hb d (k hR H locs ls hP hS hl)
theorem x_ifnullR {x : Nat} {off : Int} (n : Nat) (C : Cx K G N ρ own cc nL fr lo) (d : decode cc pc = .ok (.ifnull off, 3)) (hn : pc + 3 = n) (k : Ex K G N ρ sh n lv (st) (σ)) : Ex K G N ρ sh pc lv (.ref x :: st) (σ) := by
  obtain ⟨p, l, e, R, s, m, args, below, meth, c, cells, slots, Q⟩ := K
  obtain ⟨hx, hb, hml, hown, hts, hlk, hK, hI, hO, hfr, hlo, hce, hsl, hN2⟩ := C
  subst hn; intro hR H locs ls hP hS hl
  exact lv_ifnull hx hb d (k hR H locs ls hP hS hl)
theorem x_ifnnR {x : Nat} {off : Int} (n : Nat) (C : Cx K G N ρ own cc nL fr lo) (d : decode cc pc = .ok (.ifnonnull off, 3)) (ht : (pc : Int) + off = (n : Int)) (k : Ex K G N ρ sh n lv (st) (σ)) : Ex K G N ρ sh pc lv (.ref x :: st) (σ) := by
  obtain ⟨p, l, e, R, s, m, args, below, meth, c, cells, slots, Q⟩ := K
  obtain ⟨hx, hb, hml, hown, hts, hlk, hK, hI, hO, hfr, hlo, hce, hsl, hN2⟩ := C
  intro hR H locs ls hP hS hl
  exact lv_ifnonnull hx hb d ht (k hR H locs ls hP hS hl)
theorem x_ifnullN {off : Int} (n : Nat) (C : Cx K G N ρ own cc nL fr lo) (d : decode cc pc = .ok (.ifnull off, 3)) (ht : (pc : Int) + off = (n : Int)) (k : Ex K G N ρ sh n lv (st) (σ)) : Ex K G N ρ sh pc lv (.null :: st) (σ) := by
  obtain ⟨p, l, e, R, s, m, args, below, meth, c, cells, slots, Q⟩ := K
  obtain ⟨hx, hb, hml, hown, hts, hlk, hK, hI, hO, hfr, hlo, hce, hsl, hN2⟩ := C
  intro hR H locs ls hP hS hl
  exact lv_ifnullN hx hb d ht (k hR H locs ls hP hS hl)
theorem x_ifnnN {off : Int} (n : Nat) (C : Cx K G N ρ own cc nL fr lo) (d : decode cc pc = .ok (.ifnonnull off, 3)) (hn : pc + 3 = n) (k : Ex K G N ρ sh n lv (st) (σ)) : Ex K G N ρ sh pc lv (.null :: st) (σ) := by
  obtain ⟨p, l, e, R, s, m, args, below, meth, c, cells, slots, Q⟩ := K
  obtain ⟨hx, hb, hml, hown, hts, hlk, hK, hI, hO, hfr, hlo, hce, hsl, hN2⟩ := C
  subst hn; intro hR H locs ls hP hS hl
  exact lv_ifnonnullN hx hb d (k hR H locs ls hP hS hl)
theorem x_tab {x dflt lo1 hi : Int} {offs : Array Int} {len : Nat} (td : Nat) (L : List Nat) (C : Cx K G N ρ own cc nL fr lo) (d : decode cc pc = .ok (.tableswitch dflt lo1 hi offs, len)) (htd : (pc : Int) + dflt = (td : Int)) (hL : ∀ j, j < L.length → offs[j]? = some ((L.getD j 0 : Int) - pc)) (hlen : hi = lo1 + L.length - 1) (hxr : -2147483648 ≤ x ∧ x ≤ 2147483647) (ko : (x < lo1 ∨ hi < x) → Ex K G N ρ sh td lv (st) (σ)) (ki : ∀ j : Nat, j < L.length → x = lo1 + j → Ex K G N ρ sh (L.getD j 0) lv (st) (σ)) : Ex K G N ρ sh pc lv (.int (iZ x) :: st) (σ) := by
  obtain ⟨p, l, e, R, s, m, args, below, meth, c, cells, slots, Q⟩ := K
  obtain ⟨hx, hb, hml, hown, hts, hlk, hK, hI, hO, hfr, hlo, hce, hsl, hN2⟩ := C
  intro hR H locs ls hP hS hl
  by_cases ho : x < lo1 ∨ hi < x
  · exact lv_tableOut hx hb d (by rw [iZ_toInt hxr]; exact ho) htd (ko ho hR H locs ls hP hS hl)
  · have hj : (x - lo1).toNat < L.length := by omega
    refine lv_tableIn (off := (L.getD (x - lo1).toNat 0 : Int) - pc) (tgt := L.getD (x - lo1).toNat 0) hx hb d (by rw [iZ_toInt hxr]; omega) (by rw [iZ_toInt hxr]; omega) (by rw [iZ_toInt hxr]; exact hL _ hj) (by omega) (ki (x - lo1).toNat hj (by omega) hR H locs ls hP hS hl)
theorem x_getsM {ix : Nat} (n : Nat) (C : Cx K G N ρ own cc nL fr lo) (hw : Cond.fieldLink own ix "FirstSeen" "MOST" "[I" ∈ TB) (d : decode cc pc = .ok (.getstatic ix, 3)) (hn : pc + 3 = n) (k : Ex K G N ρ sh n lv (.ref (G.2.2 0) :: st) (σ)) : Ex K G N ρ sh pc lv (st) (σ) := by
  obtain ⟨p, l, e, R, s, m, args, below, meth, c, cells, slots, Q⟩ := K
  obtain ⟨hx, hb, hml, hown, hts, hlk, hK, hI, hO, hfr, hlo, hce, hsl, hN2⟩ := C
  subst hn; intro hR H locs ls hP hS hl
  exact va_gets hx hb hO.1.1 hS hown (hts _ hw) (fun _ h => h) d (k hR H locs ls hP hS hl)
theorem x_taldM {i : Int} (n : Nat) (C : Cx K G N ρ own cc nL fr lo) (d : decode cc pc = .ok (.iaload, 1)) (hn : pc + 1 = n) (h1 : 0 ≤ i ∧ i < 8) (k : Ex K G N ρ sh n lv (.int (iZ (([35, 99, 9, 5, 35, 3, 23, 99] : List Int).getD i.toNat 0)) :: st) (σ)) : Ex K G N ρ sh pc lv (.int (iZ i) :: .ref (G.2.2 0) :: st) (σ) := by
  obtain ⟨p, l, e, R, s, m, args, below, meth, c, cells, slots, Q⟩ := K
  obtain ⟨hx, hb, hml, hown, hts, hlk, hK, hI, hO, hfr, hlo, hce, hsl, hN2⟩ := C
  subst hn; intro hR H locs ls hP hS hl
  exact va_ti hx hb hO.1.2 hS (iZ_in h1 (by omega)) (by rw [iZ_clamp (by omega)]; rfl) d (k hR H locs ls hP hS hl)
theorem x_getsD {ix : Nat} {host : String} (n : Nat) (C : Cx K G N ρ own cc nL fr lo) (hw : Cond.fieldLinkNest own ix "FirstSeen" "DOWN" "[I" host ∈ NW) (d : decode cc pc = .ok (.getstatic ix, 3)) (hn : pc + 3 = n) (k : Ex K G N ρ sh n lv (.ref (G.2.2 1) :: st) (σ)) : Ex K G N ρ sh pc lv (st) (σ) := by
  obtain ⟨p, l, e, R, s, m, args, below, meth, c, cells, slots, Q⟩ := K
  obtain ⟨hx, hb, hml, hown, hts, hlk, hK, hI, hO, hfr, hlo, hce, hsl, hN2⟩ := C
  subst hn; intro hR H locs ls hP hS hl
  exact va_getsN hx hb hO.2.1.1 hS hown (va_Nw.use rfl (hO.2.2.2.2.2.2.1 _ hw)) (fun _ h => h) d (k hR H locs ls hP hS hl)
theorem x_taldD {i : Int} (n : Nat) (C : Cx K G N ρ own cc nL fr lo) (d : decode cc pc = .ok (.iaload, 1)) (hn : pc + 1 = n) (h1 : 0 ≤ i ∧ i < 4) (k : Ex K G N ρ sh n lv (.int (iZ (([-1, 0, 1, 0] : List Int).getD i.toNat 0)) :: st) (σ)) : Ex K G N ρ sh pc lv (.int (iZ i) :: .ref (G.2.2 1) :: st) (σ) := by
  obtain ⟨p, l, e, R, s, m, args, below, meth, c, cells, slots, Q⟩ := K
  obtain ⟨hx, hb, hml, hown, hts, hlk, hK, hI, hO, hfr, hlo, hce, hsl, hN2⟩ := C
  subst hn; intro hR H locs ls hP hS hl
  exact va_ti hx hb hO.2.1.2 hS (iZ_in h1 (by omega)) (by rw [iZ_clamp (by omega)]; rfl) d (k hR H locs ls hP hS hl)
theorem x_getsA {ix : Nat} {host : String} (n : Nat) (C : Cx K G N ρ own cc nL fr lo) (hw : Cond.fieldLinkNest own ix "FirstSeen" "ACROSS" "[I" host ∈ NW) (d : decode cc pc = .ok (.getstatic ix, 3)) (hn : pc + 3 = n) (k : Ex K G N ρ sh n lv (.ref (G.2.2 2) :: st) (σ)) : Ex K G N ρ sh pc lv (st) (σ) := by
  obtain ⟨p, l, e, R, s, m, args, below, meth, c, cells, slots, Q⟩ := K
  obtain ⟨hx, hb, hml, hown, hts, hlk, hK, hI, hO, hfr, hlo, hce, hsl, hN2⟩ := C
  subst hn; intro hR H locs ls hP hS hl
  exact va_getsN hx hb hO.2.2.1.1 hS hown (va_Nw.use rfl (hO.2.2.2.2.2.2.1 _ hw)) (fun _ h => h) d (k hR H locs ls hP hS hl)
theorem x_taldA {i : Int} (n : Nat) (C : Cx K G N ρ own cc nL fr lo) (d : decode cc pc = .ok (.iaload, 1)) (hn : pc + 1 = n) (h1 : 0 ≤ i ∧ i < 4) (k : Ex K G N ρ sh n lv (.int (iZ (([0, 1, 0, -1] : List Int).getD i.toNat 0)) :: st) (σ)) : Ex K G N ρ sh pc lv (.int (iZ i) :: .ref (G.2.2 2) :: st) (σ) := by
  obtain ⟨p, l, e, R, s, m, args, below, meth, c, cells, slots, Q⟩ := K
  obtain ⟨hx, hb, hml, hown, hts, hlk, hK, hI, hO, hfr, hlo, hce, hsl, hN2⟩ := C
  subst hn; intro hR H locs ls hP hS hl
  exact va_ti hx hb hO.2.2.1.2 hS (iZ_in h1 (by omega)) (by rw [iZ_clamp (by omega)]; rfl) d (k hR H locs ls hP hS hl)
theorem x_aret {rtt : FieldType} {q : Nat} (C : Cx K G N ρ own cc nL fr lo) (T : Rt K G N ρ sh (some rtt) post) (d : decode cc pc = .ok (.areturn, 1)) (hrt : (∃ n, rtt = .object n) ∨ ∃ t, rtt = .array t) (hp : post (some (.ref (ρ q))) σ) : Ex K G N ρ sh pc lv ([.ref (ρ q)]) (σ) := by
  obtain ⟨p, l, e, R, s, m, args, below, meth, c, cells, slots, Q⟩ := K
  obtain ⟨hx, hb, hml, hown, hts, hlk, hK, hI, hO, hfr, hlo, hce, hsl, hN2⟩ := C
  obtain ⟨hr, rfl, rfl, rfl⟩ := T
  intro hR H locs ls hP hS hl
  exact W.aret hx hb hr hrt (Or.inr ⟨_, rfl⟩) (fun t ht hW => ⟨⟨_, σ, rfl, hp, hR, by rw [ht]; exact hP⟩, hS.F ht⟩) hS.2.2 d hlk
theorem x_nret {rtt : FieldType} (C : Cx K G N ρ own cc nL fr lo) (T : Rt K G N ρ sh (some rtt) post) (d : decode cc pc = .ok (.areturn, 1)) (hrt : (∃ n, rtt = .object n) ∨ ∃ t, rtt = .array t) (hp : post (some .null) σ) : Ex K G N ρ sh pc lv ([.null]) (σ) := by
  obtain ⟨p, l, e, R, s, m, args, below, meth, c, cells, slots, Q⟩ := K
  obtain ⟨hx, hb, hml, hown, hts, hlk, hK, hI, hO, hfr, hlo, hce, hsl, hN2⟩ := C
  obtain ⟨hr, rfl, rfl, rfl⟩ := T
  intro hR H locs ls hP hS hl
  exact W.aret hx hb hr hrt (Or.inl rfl) (fun t ht hW => ⟨⟨_, σ, rfl, hp, hR, by rw [ht]; exact hP⟩, hS.F ht⟩) hS.2.2 d hlk
theorem x_instN {ci nF lb ix : Nat} {fds : List Nat} {C1 nm : String} {T1 : u_T} (n : Nat) (C : Cx K G N ρ own cc nL fr lo) (hs : sh lb = cO ci fds) (hN : lb < N) (hc : vwC[ci]? = some (C1, T1, nF)) (w1 : Cond.classLink own ix nm ∈ TB) (hc2 : (C1, nm) ∈ NC) (d : decode cc pc = .ok (.instanceof ix, 3)) (hn : pc + 3 = n) (k : Ex K G N ρ sh n lv (.int (iZ 0) :: st) (σ)) : Ex K G N ρ sh pc lv (.ref (ρ lb) :: st) (σ) := by
  obtain ⟨p, l, e, R, s, m, args, below, meth, c, cells, slots, Q⟩ := K
  obtain ⟨hx, hb, hml, hown, hts, hlk, hK, hI, hO, hfr, hlo, hce, hsl, hN2⟩ := C
  subst hn; intro hR H locs ls hP hS hl
  exact va_instNo hx hb hown (hts _ w1) (hO.2.2.2.2.2.2.2.2.2.1 _ hc2) (va_recv hK hP hc (mkW_at hN hs)) d (k hR H locs ls hP hS hl)
theorem x_instC {ci nF lb ix : Nat} {fds : List Nat} {C1 nm : String} {T1 : u_T} (n : Nat) (C : Cx K G N ρ own cc nL fr lo) (hs : sh lb = cO ci fds) (hN : lb < N) (hc : vwC[ci]? = some (C1, T1, nF)) (w1 : Cond.classLink own ix nm ∈ TB) (hc2 : Cond.castable C1 nm ∈ NW) (d : decode cc pc = .ok (.instanceof ix, 3)) (hn : pc + 3 = n) (k : Ex K G N ρ sh n lv (.int (iZ 1) :: st) (σ)) : Ex K G N ρ sh pc lv (.ref (ρ lb) :: st) (σ) := by
  obtain ⟨p, l, e, R, s, m, args, below, meth, c, cells, slots, Q⟩ := K
  obtain ⟨hx, hb, hml, hown, hts, hlk, hK, hI, hO, hfr, hlo, hce, hsl, hN2⟩ := C
  subst hn; intro hR H locs ls hP hS hl
  exact va_instY hx hb hown (hts _ w1) (hO.2.2.2.2.2.2.1 _ hc2) (va_recv hK hP hc (mkW_at hN hs)) d (k hR H locs ls hP hS hl)
theorem x_instS {ci nF lb ix : Nat} {fds : List Nat} {nm : String} {T1 : u_T} (n : Nat) (C : Cx K G N ρ own cc nL fr lo) (hs : sh lb = cO ci fds) (hN : lb < N) (hc : vwC[ci]? = some (nm, T1, nF)) (w1 : Cond.classLink own ix nm ∈ TB) (d : decode cc pc = .ok (.instanceof ix, 3)) (hn : pc + 3 = n) (k : Ex K G N ρ sh n lv (.int (iZ 1) :: st) (σ)) : Ex K G N ρ sh pc lv (.ref (ρ lb) :: st) (σ) := by
  obtain ⟨p, l, e, R, s, m, args, below, meth, c, cells, slots, Q⟩ := K
  obtain ⟨hx, hb, hml, hown, hts, hlk, hK, hI, hO, hfr, hlo, hce, hsl, hN2⟩ := C
  subst hn; intro hR H locs ls hP hS hl
  exact va_instS hx hb hown (hts _ w1) (hK.1 ci _ hc).2 (va_recv hK hP hc (mkW_at hN hs)) d (k hR H locs ls hP hS hl)
theorem x_acopy {ix la lb n1 n2 : Nat} {sp dp q : Int} (n : Nat) (C : Cx K G N ρ own cc nL fr lo) (hs1 : sh la = cA n1) (hN1 : la < N) (hs2 : sh lb = cA n2) (hN3 : lb < N) (w1 : Cond.methodLink own ix arraycopyName ∈ TB) (w2 : Cond.native arraycopyName ∈ TB) (w3 : Cond.static arraycopyName ∈ TB) (w4 : Cond.initialized "java/lang/System" ∈ TB) (d : decode cc pc = .ok (.invokestatic ix, 3)) (hn : pc + 3 = n) (h1 : 0 ≤ sp) (h2 : 0 ≤ dp) (h3 : 0 ≤ q) (h4 : sp + q ≤ n1) (h5 : dp + q ≤ n2) (h6 : n1 ≤ 2147483647 ∧ n2 ≤ 2147483647) (hro : 1 ≤ fr ∧ (st.map fun v => v.category).sum + (nativeFrameWords "java/lang/System" "arraycopy" 5 + 11) ≤ lo) (hlv : lv.length = nL) (k : Ex K G N ρ sh n lv (st) (fun a b => if a = lb ∧ dp.toNat ≤ b ∧ b < dp.toNat + q.toNat then σ la (sp.toNat + (b - dp.toNat)) else σ a b)) : Ex K G N ρ sh pc lv (.int (iZ q) :: .int (iZ dp) :: .ref (ρ lb) :: .int (iZ sp) :: .ref (ρ la) :: st) (σ) := by
  obtain ⟨p, l, e, R, s, m, args, below, meth, c, cells, slots, Q⟩ := K
  obtain ⟨hx, hb, hml, hown, hts, hlk, hK, hI, hO, hfr, hlo, hce, hsl, hN2⟩ := C
  subst hn; intro hR H locs ls hP hS hl
  have c1 : (iZ sp).toNatClampNeg = sp.toNat := iZ_clamp (by omega)
  have c2 : (iZ dp).toNatClampNeg = dp.toNat := iZ_clamp (by omega)
  have c3 : (iZ q).toNatClampNeg = q.toNat := iZ_clamp (by omega)
  have nz : ∀ z : Int, 0 ≤ z → z ≤ 2147483647 → ¬ iZ z < 0 := fun z a b h => by rw [← iZ_0, iZ_lt (by omega) (by omega)] at h; omega
  refine va_copyi (ty := .int) hx hb (hml.trans (hlv.symm.trans hl.1.symm)) hown (hts _ w1) (hts _ w2) (hts _ w3) (hts _ w4) hK hP (mkW_D hI) hS la lb 0 0 (mkW_at hN1 hs1) (mkW_at hN3 hs2) rfl rfl rfl (nz sp h1 (by omega)) (nz dp h2 (by omega)) (nz q h3 (by omega)) (by rw [c1, c3]; show _ ≤ n1; omega) (by rw [c2, c3]; show _ ≤ n2; omega) (fun _ _ => rfl) (by omega) (by omega) d (fun H1 locs1 hP1 _ hS1 => k ?_ H1 locs1 ls ?_ hS1 hl)
  · intro a b ha
    dsimp only
    split
    · rename_i h
      exact hR la _ (by omega)
    · exact hR a b ha
  · have e := mkW_set (dA := G.2.1) (N := N) (ρ := ρ) (sh := sh) (σ := σ) (σ' := fun a b => if a = lb ∧ dp.toNat ≤ b ∧ b < dp.toNat + q.toNat then σ la (sp.toNat + (b - dp.toNat)) else σ a b) (k := lb) (e := .inl (G.2.1 0, n2, .inl (va_cpy (fun j => iZ (σ la j)) (fun j => iZ (σ lb j)) (iZ sp).toNatClampNeg (iZ dp).toNatClampNeg (iZ q).toNatClampNeg))) ?_ ?_
    · rw [← e]; exact hP1
    · rw [hs2, cE_A, c1, c2, c3]
      refine congrArg (fun f => (Sum.inl (G.2.1 0, n2, Sum.inl f) : va_E)) (funext fun j => ?_)
      unfold va_cpy
      by_cases hj : dp.toNat ≤ j ∧ j < dp.toNat + q.toNat
      · simp [hj]
      · rw [if_neg hj, if_neg (by intro h; exact hj h.2)]
    · intro i hi hik
      refine cE_row (funext fun b => ?_) (funext fun b => ?_)
      · rw [if_neg (by intro h; exact hik h.1)]
      · rw [if_neg (by intro h; omega)]
theorem x_callSN {y : MethodName} {bytes : ByteArray} {mL fc lc ix : Nat} {rt : Option FieldType} {st0 As : List Value} {na : Nat} {host : String} (n : Nat) (C : Cx K G N ρ own cc nL fr lo) (d : decode cc pc = .ok (.invokestatic ix, 3)) (hn : pc + 3 = n) (hM : MX K.2.1 y bytes mL rt fc lc G N ρ sh As σ post) (w1 : Cond.methodLinkNest own ix y host ∈ NW) (w2 : Cond.static y ∈ TB) (w4 : Cond.initialized y.cls ∈ TB) (w5 : Cond.code y bytes mL rt ∈ TB) (hd : y.cls ≠ "java/lang/invoke/MethodHandle" ∧ y.cls ≠ "java/lang/invoke/VarHandle" ∧ (parseMethodDescriptor y.desc).map (fun d => d.parameters.length) = some na) (hna : As.length = na) (hro : fc + 1 ≤ fr ∧ 8 + (mL + 11) + lc ≤ lo) (hst : st0 = As.reverse ++ st) (h8 : (st.map fun v => v.category).sum ≤ 8) (hlv : lv.length = nL) (k : ∀ (r : Option Value) (σ1 : Sig), post r σ1 → Rng σ1 → Ex K G N ρ sh n lv (r.toList ++ st) σ1) : Ex K G N ρ sh pc lv (st0) (σ) := by
  obtain ⟨p, l, e, R, s, m, args, below, meth, c, cells, slots, Q⟩ := K
  obtain ⟨hx, hb, hml, hown, hts, hlk, hK, hI, hO, hfr, hlo, hce, hsl, hN2⟩ := C
  subst hn; subst hst; intro hR H locs ls hP hS hl
  have hrun := va_runSN (e := e) (below := below) (meth := meth) (As := As) (rest := st) (H := H) (locs := locs) (g := F0 m pc ls (As.reverse ++ st)) ⟨hx, hb, hml, hown, hts⟩ (hM H.size) ⟨va_cnB (R := R) na hts (good_all w5) rfl rfl rfl (hO.2.2.2.2.2.2.1 _ w1) (hts _ w4) hd ⟨Nat.le_trans hro.1 hfr, Nat.le_trans hro.2 hlo⟩, hts _ w2, trivial⟩ ⟨Rep_blind, fun U hU hW => ⟨rfl, by rw [hU], Rep_call hN2 hI hR hP hK hO hS hU hW⟩⟩ rfl hna (hl.1.trans hlv) rfl (lv_room h8) d ⟨hce, hsl⟩
  intro T hT X
  obtain ⟨v, st₀, t, T', L, h0, X', hL, e1, e2, ⟨⟨r, σ1, hv, hp, hR1, hP1⟩, hz, hk⟩, stp⟩ := hrun T hT X
  cases hv
  rw [h0] at hz hk
  obtain ⟨t2, a1, b1⟩ := k v σ1 hp hR1 hR1 T'.heap (locs ++ L) ls (by rw [e1]; exact hP1)
    ⟨Nat.le_trans hS.1 (by rw [e1]; exact hz), fun q h1 h2 => by rw [e1, hk q (Nat.lt_of_lt_of_le h1 hS.1) (fun z => h2 (AX_mono hS.1 q z))]; exact hS.2.1 q h1 h2, fun q hq => by
      rcases List.mem_append.mp hq with h | h
      · exact hS.2.2 q h
      · exact AX_mono hS.1 _ (hL q h)⟩ hl T' rfl X'
  exact ⟨t2, stp t2 a1, b1⟩
theorem x_callT {y : MethodName} {bytes : ByteArray} {mL fc lc ix : Nat} {rt : Option FieldType} {st0 As : List Value} {na : Nat} (n : Nat) (C : Cx K G N ρ own cc nL fr lo) (d : decode cc pc = .ok (.invokestatic ix, 3)) (hn : pc + 3 = n) (hM : MX K.2.1 y bytes mL rt fc lc G N ρ sh As σ post) (w1 : Cond.methodLink own ix y ∈ TB) (w2 : Cond.static y ∈ TB) (w4 : Cond.initialized y.cls ∈ TB) (w5 : Cond.code y bytes mL rt ∈ TB) (hd : y.cls ≠ "java/lang/invoke/MethodHandle" ∧ y.cls ≠ "java/lang/invoke/VarHandle" ∧ (parseMethodDescriptor y.desc).map (fun d => d.parameters.length) = some na) (hna : As.length = na) (hro : fc + 1 ≤ fr ∧ 8 + (mL + 11) + lc ≤ lo) (hst : st0 = As.reverse ++ st) (h8 : (st.map fun v => v.category).sum ≤ 8) (hlv : lv.length = nL) (k : ∀ (r : Option Value) (σ1 : Sig), post r σ1 → Rng σ1 → Ex K G N ρ sh n lv (r.toList ++ st) σ1) : Ex K G N ρ sh pc lv (st0) (σ) := by
  obtain ⟨p, l, e, R, s, m, args, below, meth, c, cells, slots, Q⟩ := K
  obtain ⟨hx, hb, hml, hown, hts, hlk, hK, hI, hO, hfr, hlo, hce, hsl, hN2⟩ := C
  subst hn; subst hst; intro hR H locs ls hP hS hl
  have hrun := va_runS (e := e) (below := below) (meth := meth) (As := As) (rest := st) (H := H) (locs := locs) (g := F0 m pc ls (As.reverse ++ st)) ⟨hx, hb, hml, hown, hts⟩ (hM H.size) (va_cwS (R := R) na hts (good_app (good_3 w1 w2 w4) (good_all w5)) rfl rfl rfl hd ⟨Nat.le_trans hro.1 hfr, Nat.le_trans hro.2 hlo⟩) ⟨Rep_blind, fun U hU hW => ⟨rfl, by rw [hU], Rep_call hN2 hI hR hP hK hO hS hU hW⟩⟩ rfl hna (hl.1.trans hlv) rfl (lv_room h8) d ⟨hce, hsl⟩
  intro T hT X
  obtain ⟨v, st₀, t, T', L, h0, X', hL, e1, e2, ⟨⟨r, σ1, hv, hp, hR1, hP1⟩, hz, hk⟩, stp⟩ := hrun T hT X
  cases hv
  rw [h0] at hz hk
  obtain ⟨t2, a1, b1⟩ := k v σ1 hp hR1 hR1 T'.heap (locs ++ L) ls (by rw [e1]; exact hP1)
    ⟨Nat.le_trans hS.1 (by rw [e1]; exact hz), fun q h1 h2 => by rw [e1, hk q (Nat.lt_of_lt_of_le h1 hS.1) (fun z => h2 (AX_mono hS.1 q z))]; exact hS.2.1 q h1 h2, fun q hq => by
      rcases List.mem_append.mp hq with h | h
      · exact hS.2.2 q h
      · exact AX_mono hS.1 _ (hL q h)⟩ hl T' rfl X'
  exact ⟨t2, stp t2 a1, b1⟩
theorem good_6 {a b c d e f : Cond} (ha : a ∈ TB) (hb : b ∈ TB) (hc : c ∈ TB) (hd : d ∈ TB) (he : e ∈ TB) (hf : f ∈ TB) : ∀ w ∈ [a, b, c, d, e, f], w ∈ TB := by
  intro w hw
  simp only [List.mem_cons, List.not_mem_nil, or_false] at hw
  rcases hw with rfl | rfl | rfl | rfl | rfl | rfl <;> assumption
theorem good_5 {a b c d e : Cond} (ha : a ∈ TB) (hb : b ∈ TB) (hc : c ∈ TB) (hd : d ∈ TB) (he : e ∈ TB) : ∀ w ∈ [a, b, c, d, e], w ∈ TB := by
  intro w hw
  simp only [List.mem_cons, List.not_mem_nil, or_false] at hw
  rcases hw with rfl | rfl | rfl | rfl | rfl <;> assumption
theorem x_callO {y : MethodName} {bytes : ByteArray} {mL fc lc ix : Nat} {rt : Option FieldType} {st0 As : List Value} {na : Nat} {x : MethodName} {bx : ByteArray} {mx : Nat} {rx : Option FieldType} {ci nF lb : Nat} {fds : List Nat} {C1 : String} {T1 : u_T} (n : Nat) (C : Cx K G N ρ own cc nL fr lo) (d : decode cc pc = .ok (.invokevirtual ix, 3)) (hn : pc + 3 = n) (hM : MX K.2.1 y bytes mL rt fc lc G N ρ sh (.ref (ρ lb) :: As) σ post) (hs : sh lb = cO ci fds) (hN : lb < N) (hc : vwC[ci]? = some (C1, T1, nF)) (w1 : Cond.methodLink own ix x ∈ TB) (w2 : Cond.sameMethod x.cls x.cls x.name x.desc ∈ TB) (w3 : Cond.instanceMethod x ∈ TB) (w6 : Cond.selects C1 x y ∈ TB) (w7 : Cond.instanceMethod y ∈ TB) (w8 : Cond.code x bx mx rx ∈ TB) (w4 : Cond.initialized y.cls ∈ TB) (w5 : Cond.code y bytes mL rt ∈ TB) (hd : x.cls ≠ "java/lang/invoke/MethodHandle" ∧ x.cls ≠ "java/lang/invoke/VarHandle" ∧ (parseMethodDescriptor x.desc).map (fun d => d.parameters.length) = some na) (hna : As.length = na) (hro : fc + 1 ≤ fr ∧ 8 + (mL + 11) + lc ≤ lo) (hst : st0 = As.reverse ++ .ref (ρ lb) :: st) (h8 : (st.map fun v => v.category).sum ≤ 8) (hlv : lv.length = nL) (k : ∀ (r : Option Value) (σ1 : Sig), post r σ1 → Rng σ1 → Ex K G N ρ sh n lv (r.toList ++ st) σ1) : Ex K G N ρ sh pc lv (st0) (σ) := by
  obtain ⟨p, l, e, R, s, m, args, below, meth, c, cells, slots, Q⟩ := K
  obtain ⟨hx, hb, hml, hown, hts, hlk, hK, hI, hO, hfr, hlo, hce, hsl, hN2⟩ := C
  subst hn; subst hst; intro hR H locs ls hP hS hl
  have hrun := va_runU (e := e) (below := below) (meth := meth) (As := As) (rest := st) (H := H) (locs := locs) (g := F0 m pc ls (As.reverse ++ .ref (ρ lb) :: st)) ⟨hx, hb, hml, hown, hts⟩ (hM H.size) (va_cwO (R := R) (owner := x.cls) na hts (good_app (good_6 w1 w2 w3 w6 w7 w4) (good_all w5)) rfl rfl rfl w8 hd ⟨Nat.le_trans hro.1 hfr, Nat.le_trans hro.2 hlo⟩) ⟨Rep_blind, va_recv hK hP hc (mkW_at hN hs), fun U hU hW => ⟨rfl, by rw [hU], Rep_call hN2 hI hR hP hK hO hS hU hW⟩⟩ rfl hna (hl.1.trans hlv) rfl (lv_room h8) d ⟨hce, hsl⟩
  intro T hT X
  obtain ⟨v, st₀, t, T', L, h0, X', hL, e1, e2, ⟨⟨r, σ1, hv, hp, hR1, hP1⟩, hz, hk⟩, stp⟩ := hrun T hT X
  cases hv
  rw [h0] at hz hk
  obtain ⟨t2, a1, b1⟩ := k v σ1 hp hR1 hR1 T'.heap (locs ++ L) ls (by rw [e1]; exact hP1)
    ⟨Nat.le_trans hS.1 (by rw [e1]; exact hz), fun q h1 h2 => by rw [e1, hk q (Nat.lt_of_lt_of_le h1 hS.1) (fun z => h2 (AX_mono hS.1 q z))]; exact hS.2.1 q h1 h2, fun q hq => by
      rcases List.mem_append.mp hq with h | h
      · exact hS.2.2 q h
      · exact AX_mono hS.1 _ (hL q h)⟩ hl T' rfl X'
  exact ⟨t2, stp t2 a1, b1⟩
theorem x_callSU {y : MethodName} {bytes : ByteArray} {mL fc lc ix : Nat} {rt : Option FieldType} {st0 As : List Value} {na : Nat} {ci nF lb : Nat} {fds : List Nat} {C1 : String} {T1 : u_T} (n : Nat) (C : Cx K G N ρ own cc nL fr lo) (d : decode cc pc = .ok (.invokespecial ix, 3)) (hn : pc + 3 = n) (hM : MX K.2.1 y bytes mL rt fc lc G N ρ sh (.ref (ρ lb) :: As) σ post) (hs : sh lb = cO ci fds) (hN : lb < N) (hc : vwC[ci]? = some (C1, T1, nF)) (w1 : Cond.methodLink own ix y ∈ TB) (w2 : Cond.sameMethod y.cls y.cls y.name y.desc ∈ TB) (w3 : Cond.superclass own y.cls ∈ TB) (w6 : Cond.instanceMethod y ∈ TB) (w4 : Cond.initialized y.cls ∈ TB) (w5 : Cond.code y bytes mL rt ∈ TB) (hd : y.name ≠ "<init>" ∧ (parseMethodDescriptor y.desc).map (fun d => d.parameters.length) = some na) (hna : As.length = na) (hro : fc + 1 ≤ fr ∧ 8 + (mL + 11) + lc ≤ lo) (hst : st0 = As.reverse ++ .ref (ρ lb) :: st) (h8 : (st.map fun v => v.category).sum ≤ 8) (hlv : lv.length = nL) (k : ∀ (r : Option Value) (σ1 : Sig), post r σ1 → Rng σ1 → Ex K G N ρ sh n lv (r.toList ++ st) σ1) : Ex K G N ρ sh pc lv (st0) (σ) := by
  obtain ⟨p, l, e, R, s, m, args, below, meth, c, cells, slots, Q⟩ := K
  obtain ⟨hx, hb, hml, hown, hts, hlk, hK, hI, hO, hfr, hlo, hce, hsl, hN2⟩ := C
  subst hn; subst hst; intro hR H locs ls hP hS hl
  have hrun := va_runSU (e := e) (below := below) (meth := meth) (As := As) (rest := st) (H := H) (locs := locs) (g := F0 m pc ls (As.reverse ++ .ref (ρ lb) :: st)) (hK.1 ci _ hc).2 ⟨hx, hb, hml, hown, hts⟩ (hM H.size) (va_cwSU (R := R) na hts (good_app (good_5 w1 w2 w3 w6 w4) (good_all w5)) rfl rfl rfl hd ⟨Nat.le_trans hro.1 hfr, Nat.le_trans hro.2 hlo⟩) ⟨Rep_blind, va_recv hK hP hc (mkW_at hN hs), fun U hU hW => ⟨rfl, by rw [hU], Rep_call hN2 hI hR hP hK hO hS hU hW⟩⟩ rfl hna (hl.1.trans hlv) rfl (lv_room h8) d ⟨hce, hsl⟩
  intro T hT X
  obtain ⟨v, st₀, t, T', L, h0, X', hL, e1, e2, ⟨⟨r, σ1, hv, hp, hR1, hP1⟩, hz, hk⟩, stp⟩ := hrun T hT X
  cases hv
  rw [h0] at hz hk
  obtain ⟨t2, a1, b1⟩ := k v σ1 hp hR1 hR1 T'.heap (locs ++ L) ls (by rw [e1]; exact hP1)
    ⟨Nat.le_trans hS.1 (by rw [e1]; exact hz), fun q h1 h2 => by rw [e1, hk q (Nat.lt_of_lt_of_le h1 hS.1) (fun z => h2 (AX_mono hS.1 q z))]; exact hS.2.1 q h1 h2, fun q hq => by
      rcases List.mem_append.mp hq with h | h
      · exact hS.2.2 q h
      · exact AX_mono hS.1 _ (hL q h)⟩ hl T' rfl X'
  exact ⟨t2, stp t2 a1, b1⟩
theorem x_callSNe {e0 : Int} {y : MethodName} {bytes : ByteArray} {mL fc lc ix : Nat} {rt : Option FieldType} {st0 As : List Value} {na : Nat} {host : String} (n : Nat) (C : Cx K G N ρ own cc nL fr lo) (d : decode cc pc = .ok (.invokestatic ix, 3)) (hn : pc + 3 = n) (hM : MX K.2.1 y bytes mL rt fc lc G N ρ sh As σ (PE σ e0)) (w1 : Cond.methodLinkNest own ix y host ∈ NW) (w2 : Cond.static y ∈ TB) (w4 : Cond.initialized y.cls ∈ TB) (w5 : Cond.code y bytes mL rt ∈ TB) (hd : y.cls ≠ "java/lang/invoke/MethodHandle" ∧ y.cls ≠ "java/lang/invoke/VarHandle" ∧ (parseMethodDescriptor y.desc).map (fun d => d.parameters.length) = some na) (hna : As.length = na) (hro : fc + 1 ≤ fr ∧ 8 + (mL + 11) + lc ≤ lo) (hst : st0 = As.reverse ++ st) (h8 : (st.map fun v => v.category).sum ≤ 8) (hlv : lv.length = nL) (k : (-2147483648 ≤ e0 ∧ e0 ≤ 2147483647) → Ex K G N ρ sh n lv (.int (iZ e0) :: st) σ) : Ex K G N ρ sh pc lv (st0) (σ) := x_callSN n C d hn hM w1 w2 w4 w5 hd hna hro hst h8 hlv (fun r s1 hp hr => by obtain ⟨rfl, h1, rfl⟩ := hp; exact k h1)
theorem x_callSNi {q : Int → Sig → Prop} {y : MethodName} {bytes : ByteArray} {mL fc lc ix : Nat} {rt : Option FieldType} {st0 As : List Value} {na : Nat} {host : String} (n : Nat) (C : Cx K G N ρ own cc nL fr lo) (d : decode cc pc = .ok (.invokestatic ix, 3)) (hn : pc + 3 = n) (hM : MX K.2.1 y bytes mL rt fc lc G N ρ sh As σ (PI q)) (w1 : Cond.methodLinkNest own ix y host ∈ NW) (w2 : Cond.static y ∈ TB) (w4 : Cond.initialized y.cls ∈ TB) (w5 : Cond.code y bytes mL rt ∈ TB) (hd : y.cls ≠ "java/lang/invoke/MethodHandle" ∧ y.cls ≠ "java/lang/invoke/VarHandle" ∧ (parseMethodDescriptor y.desc).map (fun d => d.parameters.length) = some na) (hna : As.length = na) (hro : fc + 1 ≤ fr ∧ 8 + (mL + 11) + lc ≤ lo) (hst : st0 = As.reverse ++ st) (h8 : (st.map fun v => v.category).sum ≤ 8) (hlv : lv.length = nL) (k : ∀ (z : Int) (s1 : Sig), (-2147483648 ≤ z ∧ z ≤ 2147483647) → q z s1 → Rng s1 → Ex K G N ρ sh n lv (.int (iZ z) :: st) s1) : Ex K G N ρ sh pc lv (st0) (σ) := x_callSN n C d hn hM w1 w2 w4 w5 hd hna hro hst h8 hlv (fun r s1 hp hr => by obtain ⟨z, rfl, h1, h2⟩ := hp; exact k z s1 h1 h2 hr)
theorem x_callSNv {qv : Sig → Prop} {y : MethodName} {bytes : ByteArray} {mL fc lc ix : Nat} {rt : Option FieldType} {st0 As : List Value} {na : Nat} {host : String} (n : Nat) (C : Cx K G N ρ own cc nL fr lo) (d : decode cc pc = .ok (.invokestatic ix, 3)) (hn : pc + 3 = n) (hM : MX K.2.1 y bytes mL rt fc lc G N ρ sh As σ (PV qv)) (w1 : Cond.methodLinkNest own ix y host ∈ NW) (w2 : Cond.static y ∈ TB) (w4 : Cond.initialized y.cls ∈ TB) (w5 : Cond.code y bytes mL rt ∈ TB) (hd : y.cls ≠ "java/lang/invoke/MethodHandle" ∧ y.cls ≠ "java/lang/invoke/VarHandle" ∧ (parseMethodDescriptor y.desc).map (fun d => d.parameters.length) = some na) (hna : As.length = na) (hro : fc + 1 ≤ fr ∧ 8 + (mL + 11) + lc ≤ lo) (hst : st0 = As.reverse ++ st) (h8 : (st.map fun v => v.category).sum ≤ 8) (hlv : lv.length = nL) (k : ∀ (s1 : Sig), qv s1 → Rng s1 → Ex K G N ρ sh n lv st s1) : Ex K G N ρ sh pc lv (st0) (σ) := x_callSN n C d hn hM w1 w2 w4 w5 hd hna hro hst h8 hlv (fun r s1 hp hr => by obtain ⟨rfl, h2⟩ := hp; exact k s1 h2 hr)
theorem x_callSNr {qr : Nat → Sig → Prop} {y : MethodName} {bytes : ByteArray} {mL fc lc ix : Nat} {rt : Option FieldType} {st0 As : List Value} {na : Nat} {host : String} (n : Nat) (C : Cx K G N ρ own cc nL fr lo) (d : decode cc pc = .ok (.invokestatic ix, 3)) (hn : pc + 3 = n) (hM : MX K.2.1 y bytes mL rt fc lc G N ρ sh As σ (PR ρ qr)) (w1 : Cond.methodLinkNest own ix y host ∈ NW) (w2 : Cond.static y ∈ TB) (w4 : Cond.initialized y.cls ∈ TB) (w5 : Cond.code y bytes mL rt ∈ TB) (hd : y.cls ≠ "java/lang/invoke/MethodHandle" ∧ y.cls ≠ "java/lang/invoke/VarHandle" ∧ (parseMethodDescriptor y.desc).map (fun d => d.parameters.length) = some na) (hna : As.length = na) (hro : fc + 1 ≤ fr ∧ 8 + (mL + 11) + lc ≤ lo) (hst : st0 = As.reverse ++ st) (h8 : (st.map fun v => v.category).sum ≤ 8) (hlv : lv.length = nL) (k : ∀ (z : Nat) (s1 : Sig), qr z s1 → Rng s1 → Ex K G N ρ sh n lv (.ref (ρ z) :: st) s1) : Ex K G N ρ sh pc lv (st0) (σ) := x_callSN n C d hn hM w1 w2 w4 w5 hd hna hro hst h8 hlv (fun r s1 hp hr => by obtain ⟨z, rfl, h2⟩ := hp; exact k z s1 h2 hr)
theorem x_callSNl {q : Int → Sig → Prop} {y : MethodName} {bytes : ByteArray} {mL fc lc ix : Nat} {rt : Option FieldType} {st0 As : List Value} {na : Nat} {host : String} (n : Nat) (C : Cx K G N ρ own cc nL fr lo) (d : decode cc pc = .ok (.invokestatic ix, 3)) (hn : pc + 3 = n) (hM : MX K.2.1 y bytes mL rt fc lc G N ρ sh As σ (PL q)) (w1 : Cond.methodLinkNest own ix y host ∈ NW) (w2 : Cond.static y ∈ TB) (w4 : Cond.initialized y.cls ∈ TB) (w5 : Cond.code y bytes mL rt ∈ TB) (hd : y.cls ≠ "java/lang/invoke/MethodHandle" ∧ y.cls ≠ "java/lang/invoke/VarHandle" ∧ (parseMethodDescriptor y.desc).map (fun d => d.parameters.length) = some na) (hna : As.length = na) (hro : fc + 1 ≤ fr ∧ 8 + (mL + 11) + lc ≤ lo) (hst : st0 = As.reverse ++ st) (h8 : (st.map fun v => v.category).sum ≤ 8) (hlv : lv.length = nL) (k : ∀ (z : Int) (s1 : Sig), q z s1 → Rng s1 → Ex K G N ρ sh n lv (.long (lZ z) :: st) s1) : Ex K G N ρ sh pc lv (st0) (σ) := x_callSN n C d hn hM w1 w2 w4 w5 hd hna hro hst h8 hlv (fun r s1 hp hr => by obtain ⟨z, rfl, h2⟩ := hp; exact k z s1 h2 hr)
theorem x_callTe {e0 : Int} {y : MethodName} {bytes : ByteArray} {mL fc lc ix : Nat} {rt : Option FieldType} {st0 As : List Value} {na : Nat} (n : Nat) (C : Cx K G N ρ own cc nL fr lo) (d : decode cc pc = .ok (.invokestatic ix, 3)) (hn : pc + 3 = n) (hM : MX K.2.1 y bytes mL rt fc lc G N ρ sh As σ (PE σ e0)) (w1 : Cond.methodLink own ix y ∈ TB) (w2 : Cond.static y ∈ TB) (w4 : Cond.initialized y.cls ∈ TB) (w5 : Cond.code y bytes mL rt ∈ TB) (hd : y.cls ≠ "java/lang/invoke/MethodHandle" ∧ y.cls ≠ "java/lang/invoke/VarHandle" ∧ (parseMethodDescriptor y.desc).map (fun d => d.parameters.length) = some na) (hna : As.length = na) (hro : fc + 1 ≤ fr ∧ 8 + (mL + 11) + lc ≤ lo) (hst : st0 = As.reverse ++ st) (h8 : (st.map fun v => v.category).sum ≤ 8) (hlv : lv.length = nL) (k : (-2147483648 ≤ e0 ∧ e0 ≤ 2147483647) → Ex K G N ρ sh n lv (.int (iZ e0) :: st) σ) : Ex K G N ρ sh pc lv (st0) (σ) := x_callT n C d hn hM w1 w2 w4 w5 hd hna hro hst h8 hlv (fun r s1 hp hr => by obtain ⟨rfl, h1, rfl⟩ := hp; exact k h1)
theorem x_callTi {q : Int → Sig → Prop} {y : MethodName} {bytes : ByteArray} {mL fc lc ix : Nat} {rt : Option FieldType} {st0 As : List Value} {na : Nat} (n : Nat) (C : Cx K G N ρ own cc nL fr lo) (d : decode cc pc = .ok (.invokestatic ix, 3)) (hn : pc + 3 = n) (hM : MX K.2.1 y bytes mL rt fc lc G N ρ sh As σ (PI q)) (w1 : Cond.methodLink own ix y ∈ TB) (w2 : Cond.static y ∈ TB) (w4 : Cond.initialized y.cls ∈ TB) (w5 : Cond.code y bytes mL rt ∈ TB) (hd : y.cls ≠ "java/lang/invoke/MethodHandle" ∧ y.cls ≠ "java/lang/invoke/VarHandle" ∧ (parseMethodDescriptor y.desc).map (fun d => d.parameters.length) = some na) (hna : As.length = na) (hro : fc + 1 ≤ fr ∧ 8 + (mL + 11) + lc ≤ lo) (hst : st0 = As.reverse ++ st) (h8 : (st.map fun v => v.category).sum ≤ 8) (hlv : lv.length = nL) (k : ∀ (z : Int) (s1 : Sig), (-2147483648 ≤ z ∧ z ≤ 2147483647) → q z s1 → Rng s1 → Ex K G N ρ sh n lv (.int (iZ z) :: st) s1) : Ex K G N ρ sh pc lv (st0) (σ) := x_callT n C d hn hM w1 w2 w4 w5 hd hna hro hst h8 hlv (fun r s1 hp hr => by obtain ⟨z, rfl, h1, h2⟩ := hp; exact k z s1 h1 h2 hr)
theorem x_callTv {qv : Sig → Prop} {y : MethodName} {bytes : ByteArray} {mL fc lc ix : Nat} {rt : Option FieldType} {st0 As : List Value} {na : Nat} (n : Nat) (C : Cx K G N ρ own cc nL fr lo) (d : decode cc pc = .ok (.invokestatic ix, 3)) (hn : pc + 3 = n) (hM : MX K.2.1 y bytes mL rt fc lc G N ρ sh As σ (PV qv)) (w1 : Cond.methodLink own ix y ∈ TB) (w2 : Cond.static y ∈ TB) (w4 : Cond.initialized y.cls ∈ TB) (w5 : Cond.code y bytes mL rt ∈ TB) (hd : y.cls ≠ "java/lang/invoke/MethodHandle" ∧ y.cls ≠ "java/lang/invoke/VarHandle" ∧ (parseMethodDescriptor y.desc).map (fun d => d.parameters.length) = some na) (hna : As.length = na) (hro : fc + 1 ≤ fr ∧ 8 + (mL + 11) + lc ≤ lo) (hst : st0 = As.reverse ++ st) (h8 : (st.map fun v => v.category).sum ≤ 8) (hlv : lv.length = nL) (k : ∀ (s1 : Sig), qv s1 → Rng s1 → Ex K G N ρ sh n lv st s1) : Ex K G N ρ sh pc lv (st0) (σ) := x_callT n C d hn hM w1 w2 w4 w5 hd hna hro hst h8 hlv (fun r s1 hp hr => by obtain ⟨rfl, h2⟩ := hp; exact k s1 h2 hr)
theorem x_callTr {qr : Nat → Sig → Prop} {y : MethodName} {bytes : ByteArray} {mL fc lc ix : Nat} {rt : Option FieldType} {st0 As : List Value} {na : Nat} (n : Nat) (C : Cx K G N ρ own cc nL fr lo) (d : decode cc pc = .ok (.invokestatic ix, 3)) (hn : pc + 3 = n) (hM : MX K.2.1 y bytes mL rt fc lc G N ρ sh As σ (PR ρ qr)) (w1 : Cond.methodLink own ix y ∈ TB) (w2 : Cond.static y ∈ TB) (w4 : Cond.initialized y.cls ∈ TB) (w5 : Cond.code y bytes mL rt ∈ TB) (hd : y.cls ≠ "java/lang/invoke/MethodHandle" ∧ y.cls ≠ "java/lang/invoke/VarHandle" ∧ (parseMethodDescriptor y.desc).map (fun d => d.parameters.length) = some na) (hna : As.length = na) (hro : fc + 1 ≤ fr ∧ 8 + (mL + 11) + lc ≤ lo) (hst : st0 = As.reverse ++ st) (h8 : (st.map fun v => v.category).sum ≤ 8) (hlv : lv.length = nL) (k : ∀ (z : Nat) (s1 : Sig), qr z s1 → Rng s1 → Ex K G N ρ sh n lv (.ref (ρ z) :: st) s1) : Ex K G N ρ sh pc lv (st0) (σ) := x_callT n C d hn hM w1 w2 w4 w5 hd hna hro hst h8 hlv (fun r s1 hp hr => by obtain ⟨z, rfl, h2⟩ := hp; exact k z s1 h2 hr)
theorem x_callTl {q : Int → Sig → Prop} {y : MethodName} {bytes : ByteArray} {mL fc lc ix : Nat} {rt : Option FieldType} {st0 As : List Value} {na : Nat} (n : Nat) (C : Cx K G N ρ own cc nL fr lo) (d : decode cc pc = .ok (.invokestatic ix, 3)) (hn : pc + 3 = n) (hM : MX K.2.1 y bytes mL rt fc lc G N ρ sh As σ (PL q)) (w1 : Cond.methodLink own ix y ∈ TB) (w2 : Cond.static y ∈ TB) (w4 : Cond.initialized y.cls ∈ TB) (w5 : Cond.code y bytes mL rt ∈ TB) (hd : y.cls ≠ "java/lang/invoke/MethodHandle" ∧ y.cls ≠ "java/lang/invoke/VarHandle" ∧ (parseMethodDescriptor y.desc).map (fun d => d.parameters.length) = some na) (hna : As.length = na) (hro : fc + 1 ≤ fr ∧ 8 + (mL + 11) + lc ≤ lo) (hst : st0 = As.reverse ++ st) (h8 : (st.map fun v => v.category).sum ≤ 8) (hlv : lv.length = nL) (k : ∀ (z : Int) (s1 : Sig), q z s1 → Rng s1 → Ex K G N ρ sh n lv (.long (lZ z) :: st) s1) : Ex K G N ρ sh pc lv (st0) (σ) := x_callT n C d hn hM w1 w2 w4 w5 hd hna hro hst h8 hlv (fun r s1 hp hr => by obtain ⟨z, rfl, h2⟩ := hp; exact k z s1 h2 hr)
theorem x_callOe {e0 : Int} {y : MethodName} {bytes : ByteArray} {mL fc lc ix : Nat} {rt : Option FieldType} {st0 As : List Value} {na : Nat} {x : MethodName} {bx : ByteArray} {mx : Nat} {rx : Option FieldType} {ci nF lb : Nat} {fds : List Nat} {C1 : String} {T1 : u_T} (n : Nat) (C : Cx K G N ρ own cc nL fr lo) (d : decode cc pc = .ok (.invokevirtual ix, 3)) (hn : pc + 3 = n) (hM : MX K.2.1 y bytes mL rt fc lc G N ρ sh (.ref (ρ lb) :: As) σ (PE σ e0)) (hs : sh lb = cO ci fds) (hN : lb < N) (hc : vwC[ci]? = some (C1, T1, nF)) (w1 : Cond.methodLink own ix x ∈ TB) (w2 : Cond.sameMethod x.cls x.cls x.name x.desc ∈ TB) (w3 : Cond.instanceMethod x ∈ TB) (w6 : Cond.selects C1 x y ∈ TB) (w7 : Cond.instanceMethod y ∈ TB) (w8 : Cond.code x bx mx rx ∈ TB) (w4 : Cond.initialized y.cls ∈ TB) (w5 : Cond.code y bytes mL rt ∈ TB) (hd : x.cls ≠ "java/lang/invoke/MethodHandle" ∧ x.cls ≠ "java/lang/invoke/VarHandle" ∧ (parseMethodDescriptor x.desc).map (fun d => d.parameters.length) = some na) (hna : As.length = na) (hro : fc + 1 ≤ fr ∧ 8 + (mL + 11) + lc ≤ lo) (hst : st0 = As.reverse ++ .ref (ρ lb) :: st) (h8 : (st.map fun v => v.category).sum ≤ 8) (hlv : lv.length = nL) (k : (-2147483648 ≤ e0 ∧ e0 ≤ 2147483647) → Ex K G N ρ sh n lv (.int (iZ e0) :: st) σ) : Ex K G N ρ sh pc lv (st0) (σ) := x_callO n C d hn hM hs hN hc w1 w2 w3 w6 w7 w8 w4 w5 hd hna hro hst h8 hlv (fun r s1 hp hr => by obtain ⟨rfl, h1, rfl⟩ := hp; exact k h1)
theorem x_callOi {q : Int → Sig → Prop} {y : MethodName} {bytes : ByteArray} {mL fc lc ix : Nat} {rt : Option FieldType} {st0 As : List Value} {na : Nat} {x : MethodName} {bx : ByteArray} {mx : Nat} {rx : Option FieldType} {ci nF lb : Nat} {fds : List Nat} {C1 : String} {T1 : u_T} (n : Nat) (C : Cx K G N ρ own cc nL fr lo) (d : decode cc pc = .ok (.invokevirtual ix, 3)) (hn : pc + 3 = n) (hM : MX K.2.1 y bytes mL rt fc lc G N ρ sh (.ref (ρ lb) :: As) σ (PI q)) (hs : sh lb = cO ci fds) (hN : lb < N) (hc : vwC[ci]? = some (C1, T1, nF)) (w1 : Cond.methodLink own ix x ∈ TB) (w2 : Cond.sameMethod x.cls x.cls x.name x.desc ∈ TB) (w3 : Cond.instanceMethod x ∈ TB) (w6 : Cond.selects C1 x y ∈ TB) (w7 : Cond.instanceMethod y ∈ TB) (w8 : Cond.code x bx mx rx ∈ TB) (w4 : Cond.initialized y.cls ∈ TB) (w5 : Cond.code y bytes mL rt ∈ TB) (hd : x.cls ≠ "java/lang/invoke/MethodHandle" ∧ x.cls ≠ "java/lang/invoke/VarHandle" ∧ (parseMethodDescriptor x.desc).map (fun d => d.parameters.length) = some na) (hna : As.length = na) (hro : fc + 1 ≤ fr ∧ 8 + (mL + 11) + lc ≤ lo) (hst : st0 = As.reverse ++ .ref (ρ lb) :: st) (h8 : (st.map fun v => v.category).sum ≤ 8) (hlv : lv.length = nL) (k : ∀ (z : Int) (s1 : Sig), (-2147483648 ≤ z ∧ z ≤ 2147483647) → q z s1 → Rng s1 → Ex K G N ρ sh n lv (.int (iZ z) :: st) s1) : Ex K G N ρ sh pc lv (st0) (σ) := x_callO n C d hn hM hs hN hc w1 w2 w3 w6 w7 w8 w4 w5 hd hna hro hst h8 hlv (fun r s1 hp hr => by obtain ⟨z, rfl, h1, h2⟩ := hp; exact k z s1 h1 h2 hr)
theorem x_callOv {qv : Sig → Prop} {y : MethodName} {bytes : ByteArray} {mL fc lc ix : Nat} {rt : Option FieldType} {st0 As : List Value} {na : Nat} {x : MethodName} {bx : ByteArray} {mx : Nat} {rx : Option FieldType} {ci nF lb : Nat} {fds : List Nat} {C1 : String} {T1 : u_T} (n : Nat) (C : Cx K G N ρ own cc nL fr lo) (d : decode cc pc = .ok (.invokevirtual ix, 3)) (hn : pc + 3 = n) (hM : MX K.2.1 y bytes mL rt fc lc G N ρ sh (.ref (ρ lb) :: As) σ (PV qv)) (hs : sh lb = cO ci fds) (hN : lb < N) (hc : vwC[ci]? = some (C1, T1, nF)) (w1 : Cond.methodLink own ix x ∈ TB) (w2 : Cond.sameMethod x.cls x.cls x.name x.desc ∈ TB) (w3 : Cond.instanceMethod x ∈ TB) (w6 : Cond.selects C1 x y ∈ TB) (w7 : Cond.instanceMethod y ∈ TB) (w8 : Cond.code x bx mx rx ∈ TB) (w4 : Cond.initialized y.cls ∈ TB) (w5 : Cond.code y bytes mL rt ∈ TB) (hd : x.cls ≠ "java/lang/invoke/MethodHandle" ∧ x.cls ≠ "java/lang/invoke/VarHandle" ∧ (parseMethodDescriptor x.desc).map (fun d => d.parameters.length) = some na) (hna : As.length = na) (hro : fc + 1 ≤ fr ∧ 8 + (mL + 11) + lc ≤ lo) (hst : st0 = As.reverse ++ .ref (ρ lb) :: st) (h8 : (st.map fun v => v.category).sum ≤ 8) (hlv : lv.length = nL) (k : ∀ (s1 : Sig), qv s1 → Rng s1 → Ex K G N ρ sh n lv st s1) : Ex K G N ρ sh pc lv (st0) (σ) := x_callO n C d hn hM hs hN hc w1 w2 w3 w6 w7 w8 w4 w5 hd hna hro hst h8 hlv (fun r s1 hp hr => by obtain ⟨rfl, h2⟩ := hp; exact k s1 h2 hr)
theorem x_callOr {qr : Nat → Sig → Prop} {y : MethodName} {bytes : ByteArray} {mL fc lc ix : Nat} {rt : Option FieldType} {st0 As : List Value} {na : Nat} {x : MethodName} {bx : ByteArray} {mx : Nat} {rx : Option FieldType} {ci nF lb : Nat} {fds : List Nat} {C1 : String} {T1 : u_T} (n : Nat) (C : Cx K G N ρ own cc nL fr lo) (d : decode cc pc = .ok (.invokevirtual ix, 3)) (hn : pc + 3 = n) (hM : MX K.2.1 y bytes mL rt fc lc G N ρ sh (.ref (ρ lb) :: As) σ (PR ρ qr)) (hs : sh lb = cO ci fds) (hN : lb < N) (hc : vwC[ci]? = some (C1, T1, nF)) (w1 : Cond.methodLink own ix x ∈ TB) (w2 : Cond.sameMethod x.cls x.cls x.name x.desc ∈ TB) (w3 : Cond.instanceMethod x ∈ TB) (w6 : Cond.selects C1 x y ∈ TB) (w7 : Cond.instanceMethod y ∈ TB) (w8 : Cond.code x bx mx rx ∈ TB) (w4 : Cond.initialized y.cls ∈ TB) (w5 : Cond.code y bytes mL rt ∈ TB) (hd : x.cls ≠ "java/lang/invoke/MethodHandle" ∧ x.cls ≠ "java/lang/invoke/VarHandle" ∧ (parseMethodDescriptor x.desc).map (fun d => d.parameters.length) = some na) (hna : As.length = na) (hro : fc + 1 ≤ fr ∧ 8 + (mL + 11) + lc ≤ lo) (hst : st0 = As.reverse ++ .ref (ρ lb) :: st) (h8 : (st.map fun v => v.category).sum ≤ 8) (hlv : lv.length = nL) (k : ∀ (z : Nat) (s1 : Sig), qr z s1 → Rng s1 → Ex K G N ρ sh n lv (.ref (ρ z) :: st) s1) : Ex K G N ρ sh pc lv (st0) (σ) := x_callO n C d hn hM hs hN hc w1 w2 w3 w6 w7 w8 w4 w5 hd hna hro hst h8 hlv (fun r s1 hp hr => by obtain ⟨z, rfl, h2⟩ := hp; exact k z s1 h2 hr)
theorem x_callOl {q : Int → Sig → Prop} {y : MethodName} {bytes : ByteArray} {mL fc lc ix : Nat} {rt : Option FieldType} {st0 As : List Value} {na : Nat} {x : MethodName} {bx : ByteArray} {mx : Nat} {rx : Option FieldType} {ci nF lb : Nat} {fds : List Nat} {C1 : String} {T1 : u_T} (n : Nat) (C : Cx K G N ρ own cc nL fr lo) (d : decode cc pc = .ok (.invokevirtual ix, 3)) (hn : pc + 3 = n) (hM : MX K.2.1 y bytes mL rt fc lc G N ρ sh (.ref (ρ lb) :: As) σ (PL q)) (hs : sh lb = cO ci fds) (hN : lb < N) (hc : vwC[ci]? = some (C1, T1, nF)) (w1 : Cond.methodLink own ix x ∈ TB) (w2 : Cond.sameMethod x.cls x.cls x.name x.desc ∈ TB) (w3 : Cond.instanceMethod x ∈ TB) (w6 : Cond.selects C1 x y ∈ TB) (w7 : Cond.instanceMethod y ∈ TB) (w8 : Cond.code x bx mx rx ∈ TB) (w4 : Cond.initialized y.cls ∈ TB) (w5 : Cond.code y bytes mL rt ∈ TB) (hd : x.cls ≠ "java/lang/invoke/MethodHandle" ∧ x.cls ≠ "java/lang/invoke/VarHandle" ∧ (parseMethodDescriptor x.desc).map (fun d => d.parameters.length) = some na) (hna : As.length = na) (hro : fc + 1 ≤ fr ∧ 8 + (mL + 11) + lc ≤ lo) (hst : st0 = As.reverse ++ .ref (ρ lb) :: st) (h8 : (st.map fun v => v.category).sum ≤ 8) (hlv : lv.length = nL) (k : ∀ (z : Int) (s1 : Sig), q z s1 → Rng s1 → Ex K G N ρ sh n lv (.long (lZ z) :: st) s1) : Ex K G N ρ sh pc lv (st0) (σ) := x_callO n C d hn hM hs hN hc w1 w2 w3 w6 w7 w8 w4 w5 hd hna hro hst h8 hlv (fun r s1 hp hr => by obtain ⟨z, rfl, h2⟩ := hp; exact k z s1 h2 hr)
theorem x_callSUe {e0 : Int} {y : MethodName} {bytes : ByteArray} {mL fc lc ix : Nat} {rt : Option FieldType} {st0 As : List Value} {na : Nat} {ci nF lb : Nat} {fds : List Nat} {C1 : String} {T1 : u_T} (n : Nat) (C : Cx K G N ρ own cc nL fr lo) (d : decode cc pc = .ok (.invokespecial ix, 3)) (hn : pc + 3 = n) (hM : MX K.2.1 y bytes mL rt fc lc G N ρ sh (.ref (ρ lb) :: As) σ (PE σ e0)) (hs : sh lb = cO ci fds) (hN : lb < N) (hc : vwC[ci]? = some (C1, T1, nF)) (w1 : Cond.methodLink own ix y ∈ TB) (w2 : Cond.sameMethod y.cls y.cls y.name y.desc ∈ TB) (w3 : Cond.superclass own y.cls ∈ TB) (w6 : Cond.instanceMethod y ∈ TB) (w4 : Cond.initialized y.cls ∈ TB) (w5 : Cond.code y bytes mL rt ∈ TB) (hd : y.name ≠ "<init>" ∧ (parseMethodDescriptor y.desc).map (fun d => d.parameters.length) = some na) (hna : As.length = na) (hro : fc + 1 ≤ fr ∧ 8 + (mL + 11) + lc ≤ lo) (hst : st0 = As.reverse ++ .ref (ρ lb) :: st) (h8 : (st.map fun v => v.category).sum ≤ 8) (hlv : lv.length = nL) (k : (-2147483648 ≤ e0 ∧ e0 ≤ 2147483647) → Ex K G N ρ sh n lv (.int (iZ e0) :: st) σ) : Ex K G N ρ sh pc lv (st0) (σ) := x_callSU n C d hn hM hs hN hc w1 w2 w3 w6 w4 w5 hd hna hro hst h8 hlv (fun r s1 hp hr => by obtain ⟨rfl, h1, rfl⟩ := hp; exact k h1)
theorem x_callSUi {q : Int → Sig → Prop} {y : MethodName} {bytes : ByteArray} {mL fc lc ix : Nat} {rt : Option FieldType} {st0 As : List Value} {na : Nat} {ci nF lb : Nat} {fds : List Nat} {C1 : String} {T1 : u_T} (n : Nat) (C : Cx K G N ρ own cc nL fr lo) (d : decode cc pc = .ok (.invokespecial ix, 3)) (hn : pc + 3 = n) (hM : MX K.2.1 y bytes mL rt fc lc G N ρ sh (.ref (ρ lb) :: As) σ (PI q)) (hs : sh lb = cO ci fds) (hN : lb < N) (hc : vwC[ci]? = some (C1, T1, nF)) (w1 : Cond.methodLink own ix y ∈ TB) (w2 : Cond.sameMethod y.cls y.cls y.name y.desc ∈ TB) (w3 : Cond.superclass own y.cls ∈ TB) (w6 : Cond.instanceMethod y ∈ TB) (w4 : Cond.initialized y.cls ∈ TB) (w5 : Cond.code y bytes mL rt ∈ TB) (hd : y.name ≠ "<init>" ∧ (parseMethodDescriptor y.desc).map (fun d => d.parameters.length) = some na) (hna : As.length = na) (hro : fc + 1 ≤ fr ∧ 8 + (mL + 11) + lc ≤ lo) (hst : st0 = As.reverse ++ .ref (ρ lb) :: st) (h8 : (st.map fun v => v.category).sum ≤ 8) (hlv : lv.length = nL) (k : ∀ (z : Int) (s1 : Sig), (-2147483648 ≤ z ∧ z ≤ 2147483647) → q z s1 → Rng s1 → Ex K G N ρ sh n lv (.int (iZ z) :: st) s1) : Ex K G N ρ sh pc lv (st0) (σ) := x_callSU n C d hn hM hs hN hc w1 w2 w3 w6 w4 w5 hd hna hro hst h8 hlv (fun r s1 hp hr => by obtain ⟨z, rfl, h1, h2⟩ := hp; exact k z s1 h1 h2 hr)
theorem x_callSUv {qv : Sig → Prop} {y : MethodName} {bytes : ByteArray} {mL fc lc ix : Nat} {rt : Option FieldType} {st0 As : List Value} {na : Nat} {ci nF lb : Nat} {fds : List Nat} {C1 : String} {T1 : u_T} (n : Nat) (C : Cx K G N ρ own cc nL fr lo) (d : decode cc pc = .ok (.invokespecial ix, 3)) (hn : pc + 3 = n) (hM : MX K.2.1 y bytes mL rt fc lc G N ρ sh (.ref (ρ lb) :: As) σ (PV qv)) (hs : sh lb = cO ci fds) (hN : lb < N) (hc : vwC[ci]? = some (C1, T1, nF)) (w1 : Cond.methodLink own ix y ∈ TB) (w2 : Cond.sameMethod y.cls y.cls y.name y.desc ∈ TB) (w3 : Cond.superclass own y.cls ∈ TB) (w6 : Cond.instanceMethod y ∈ TB) (w4 : Cond.initialized y.cls ∈ TB) (w5 : Cond.code y bytes mL rt ∈ TB) (hd : y.name ≠ "<init>" ∧ (parseMethodDescriptor y.desc).map (fun d => d.parameters.length) = some na) (hna : As.length = na) (hro : fc + 1 ≤ fr ∧ 8 + (mL + 11) + lc ≤ lo) (hst : st0 = As.reverse ++ .ref (ρ lb) :: st) (h8 : (st.map fun v => v.category).sum ≤ 8) (hlv : lv.length = nL) (k : ∀ (s1 : Sig), qv s1 → Rng s1 → Ex K G N ρ sh n lv st s1) : Ex K G N ρ sh pc lv (st0) (σ) := x_callSU n C d hn hM hs hN hc w1 w2 w3 w6 w4 w5 hd hna hro hst h8 hlv (fun r s1 hp hr => by obtain ⟨rfl, h2⟩ := hp; exact k s1 h2 hr)
theorem x_callSUr {qr : Nat → Sig → Prop} {y : MethodName} {bytes : ByteArray} {mL fc lc ix : Nat} {rt : Option FieldType} {st0 As : List Value} {na : Nat} {ci nF lb : Nat} {fds : List Nat} {C1 : String} {T1 : u_T} (n : Nat) (C : Cx K G N ρ own cc nL fr lo) (d : decode cc pc = .ok (.invokespecial ix, 3)) (hn : pc + 3 = n) (hM : MX K.2.1 y bytes mL rt fc lc G N ρ sh (.ref (ρ lb) :: As) σ (PR ρ qr)) (hs : sh lb = cO ci fds) (hN : lb < N) (hc : vwC[ci]? = some (C1, T1, nF)) (w1 : Cond.methodLink own ix y ∈ TB) (w2 : Cond.sameMethod y.cls y.cls y.name y.desc ∈ TB) (w3 : Cond.superclass own y.cls ∈ TB) (w6 : Cond.instanceMethod y ∈ TB) (w4 : Cond.initialized y.cls ∈ TB) (w5 : Cond.code y bytes mL rt ∈ TB) (hd : y.name ≠ "<init>" ∧ (parseMethodDescriptor y.desc).map (fun d => d.parameters.length) = some na) (hna : As.length = na) (hro : fc + 1 ≤ fr ∧ 8 + (mL + 11) + lc ≤ lo) (hst : st0 = As.reverse ++ .ref (ρ lb) :: st) (h8 : (st.map fun v => v.category).sum ≤ 8) (hlv : lv.length = nL) (k : ∀ (z : Nat) (s1 : Sig), qr z s1 → Rng s1 → Ex K G N ρ sh n lv (.ref (ρ z) :: st) s1) : Ex K G N ρ sh pc lv (st0) (σ) := x_callSU n C d hn hM hs hN hc w1 w2 w3 w6 w4 w5 hd hna hro hst h8 hlv (fun r s1 hp hr => by obtain ⟨z, rfl, h2⟩ := hp; exact k z s1 h2 hr)
theorem x_callSUl {q : Int → Sig → Prop} {y : MethodName} {bytes : ByteArray} {mL fc lc ix : Nat} {rt : Option FieldType} {st0 As : List Value} {na : Nat} {ci nF lb : Nat} {fds : List Nat} {C1 : String} {T1 : u_T} (n : Nat) (C : Cx K G N ρ own cc nL fr lo) (d : decode cc pc = .ok (.invokespecial ix, 3)) (hn : pc + 3 = n) (hM : MX K.2.1 y bytes mL rt fc lc G N ρ sh (.ref (ρ lb) :: As) σ (PL q)) (hs : sh lb = cO ci fds) (hN : lb < N) (hc : vwC[ci]? = some (C1, T1, nF)) (w1 : Cond.methodLink own ix y ∈ TB) (w2 : Cond.sameMethod y.cls y.cls y.name y.desc ∈ TB) (w3 : Cond.superclass own y.cls ∈ TB) (w6 : Cond.instanceMethod y ∈ TB) (w4 : Cond.initialized y.cls ∈ TB) (w5 : Cond.code y bytes mL rt ∈ TB) (hd : y.name ≠ "<init>" ∧ (parseMethodDescriptor y.desc).map (fun d => d.parameters.length) = some na) (hna : As.length = na) (hro : fc + 1 ≤ fr ∧ 8 + (mL + 11) + lc ≤ lo) (hst : st0 = As.reverse ++ .ref (ρ lb) :: st) (h8 : (st.map fun v => v.category).sum ≤ 8) (hlv : lv.length = nL) (k : ∀ (z : Int) (s1 : Sig), q z s1 → Rng s1 → Ex K G N ρ sh n lv (.long (lZ z) :: st) s1) : Ex K G N ρ sh pc lv (st0) (σ) := x_callSU n C d hn hM hs hN hc w1 w2 w3 w6 w4 w5 hd hna hro hst h8 hlv (fun r s1 hp hr => by obtain ⟨z, rfl, h2⟩ := hp; exact k z s1 h2 hr)
end ROWS
