theorem div_in {x y : Int} (h0 : 0 ≤ x) (hy : 0 < y) : 0 ≤ x / y ∧ x / y ≤ x := ⟨Int.ediv_nonneg h0 (by omega), Int.ediv_le_self y h0⟩
theorem iZ_div {x y : Int} (hx : 0 ≤ x ∧ x ≤ 2147483647) (hy : 0 < y ∧ y ≤ 2147483647) : iZ x / iZ y = iZ (x / y) := by
  apply Int32.toInt_inj.mp
  have h := div_in hx.1 hy.1
  rw [Int32.toInt_div, iZ_toInt (by omega), iZ_toInt (by omega), iZ_toInt (by omega), Int.tdiv_eq_ediv_of_nonneg hx.1]
  exact Int.bmod_eq_of_le (by omega) (by omega)
theorem iZ_divT {x y : Int} (hx : -2147483648 ≤ x ∧ x ≤ 2147483647) (hy : 1 < y ∧ y ≤ 2147483647) : iZ x / iZ y = iZ (x.tdiv y) := by
  apply Int32.toInt_inj.mp
  have h : -2147483648 ≤ x.tdiv y ∧ x.tdiv y ≤ 2147483647 := by
    rcases Int.le_total 0 x with h0 | h0
    · rw [Int.tdiv_eq_ediv_of_nonneg h0]
      have := div_in h0 (show 0 < y by omega)
      omega
    · have e : x.tdiv y = -((-x) / y) := by
        rw [← Int.tdiv_eq_ediv_of_nonneg (show 0 ≤ -x by omega), Int.neg_tdiv, Int.neg_neg]
      have := div_in (show 0 ≤ -x by omega) (show 0 < y by omega)
      omega
  rw [Int32.toInt_div, iZ_toInt (by omega), iZ_toInt (by omega), iZ_toInt h]
  exact Int.bmod_eq_of_le (by omega) (by omega)
theorem iZ_ne0 {y : Int} (hy : 0 < y ∧ y ≤ 2147483647) : ¬ iZ y = 0 := by
  intro h
  rw [← iZ_0, iZ_eq (by omega) (by omega)] at h
  omega
theorem iZ_rem {x y : Int} (hx : 0 ≤ x ∧ x ≤ 2147483647) (hy : 0 < y ∧ y ≤ 2147483647) : iZ x - iZ x / iZ y * iZ y = iZ (x % y) := by
  rw [iZ_div hx hy, iZ_mul, iZ_sub, Int.emod_def, Int.mul_comm]
theorem iZ_remT {x y : Int} (hx : -2147483648 ≤ x ∧ x ≤ 2147483647) (hy : 1 < y ∧ y ≤ 2147483647) : iZ x - iZ x / iZ y * iZ y = iZ (x.tmod y) := by
  rw [iZ_divT hx hy, iZ_mul, iZ_sub, Int.tmod_def, Int.mul_comm]
section ROWS
variable {K : Mk} {G : Gt} {N : Nat} {ρ : Nat → Nat} {sh : Nat → Shc} {own : String} {cc : ByteArray} {nL fr lo : Nat} {pc n : Nat} {lv : List (Option Value)} {st : List Value} {σ : Sig}
theorem x_idiv {x y : Int} (n : Nat) (C : Cx K G N ρ own cc nL fr lo) (d : decode cc pc = .ok (.idiv, 1)) (hn : pc + 1 = n) (h1 : 0 ≤ x ∧ x ≤ 2147483647) (h2 : 0 < y ∧ y ≤ 2147483647) (k : Ex K G N ρ sh n lv (.int (iZ (x / y)) :: st) (σ)) : Ex K G N ρ sh pc lv (.int (iZ y) :: .int (iZ x) :: st) (σ) := by
  obtain ⟨p, l, e, R, s, m, args, below, meth, c, cells, slots, Q⟩ := K
  obtain ⟨hx, hb, hml, hown, hts, hlk, hK, hI, hO, hfr, hlo, hce, hsl, hN2⟩ := C
  subst hn; intro hR H locs ls hP hS hl
  refine lv_idiv hx hb d (iZ_ne0 h2) ?_
  rw [iZ_div h1 h2]
  exact k hR H locs ls hP hS hl
theorem x_idivT {x y : Int} (n : Nat) (C : Cx K G N ρ own cc nL fr lo) (d : decode cc pc = .ok (.idiv, 1)) (hn : pc + 1 = n) (h1 : -2147483648 ≤ x ∧ x ≤ 2147483647) (h2 : 1 < y ∧ y ≤ 2147483647) (k : Ex K G N ρ sh n lv (.int (iZ (x.tdiv y)) :: st) (σ)) : Ex K G N ρ sh pc lv (.int (iZ y) :: .int (iZ x) :: st) (σ) := by
  obtain ⟨p, l, e, R, s, m, args, below, meth, c, cells, slots, Q⟩ := K
  obtain ⟨hx, hb, hml, hown, hts, hlk, hK, hI, hO, hfr, hlo, hce, hsl, hN2⟩ := C
  subst hn; intro hR H locs ls hP hS hl
  refine lv_idiv hx hb d (iZ_ne0 (by omega)) ?_
  rw [iZ_divT h1 h2]
  exact k hR H locs ls hP hS hl
theorem x_irem {x y : Int} (n : Nat) (C : Cx K G N ρ own cc nL fr lo) (d : decode cc pc = .ok (.irem, 1)) (hn : pc + 1 = n) (h1 : 0 ≤ x ∧ x ≤ 2147483647) (h2 : 0 < y ∧ y ≤ 2147483647) (k : Ex K G N ρ sh n lv (.int (iZ (x % y)) :: st) (σ)) : Ex K G N ρ sh pc lv (.int (iZ y) :: .int (iZ x) :: st) (σ) := by
  obtain ⟨p, l, e, R, s, m, args, below, meth, c, cells, slots, Q⟩ := K
  obtain ⟨hx, hb, hml, hown, hts, hlk, hK, hI, hO, hfr, hlo, hce, hsl, hN2⟩ := C
  subst hn; intro hR H locs ls hP hS hl
  refine lv_irem hx hb d (iZ_ne0 h2) ?_
  rw [iZ_rem h1 h2]
  exact k hR H locs ls hP hS hl
theorem x_iremT {x y : Int} (n : Nat) (C : Cx K G N ρ own cc nL fr lo) (d : decode cc pc = .ok (.irem, 1)) (hn : pc + 1 = n) (h1 : -2147483648 ≤ x ∧ x ≤ 2147483647) (h2 : 1 < y ∧ y ≤ 2147483647) (k : Ex K G N ρ sh n lv (.int (iZ (x.tmod y)) :: st) (σ)) : Ex K G N ρ sh pc lv (.int (iZ y) :: .int (iZ x) :: st) (σ) := by
  obtain ⟨p, l, e, R, s, m, args, below, meth, c, cells, slots, Q⟩ := K
  obtain ⟨hx, hb, hml, hown, hts, hlk, hK, hI, hO, hfr, hlo, hce, hsl, hN2⟩ := C
  subst hn; intro hR H locs ls hP hS hl
  refine lv_irem hx hb d (iZ_ne0 (by omega)) ?_
  rw [iZ_remT h1 h2]
  exact k hR H locs ls hP hS hl
theorem x_ishl {x y : Int} (v : Int) (n : Nat) (C : Cx K G N ρ own cc nL fr lo) (d : decode cc pc = .ok (.ishl, 1)) (hn : pc + 1 = n) (hv : iZ x <<< (iZ y &&& 31) = iZ v) (k : Ex K G N ρ sh n lv (.int (iZ v) :: st) (σ)) : Ex K G N ρ sh pc lv (.int (iZ y) :: .int (iZ x) :: st) (σ) := by
  obtain ⟨p, l, e, R, s, m, args, below, meth, c, cells, slots, Q⟩ := K
  obtain ⟨hx, hb, hml, hown, hts, hlk, hK, hI, hO, hfr, hlo, hce, hsl, hN2⟩ := C
  subst hn; intro hR H locs ls hP hS hl
  refine lv_ishl hx hb d ?_
  rw [hv]
  exact k hR H locs ls hP hS hl
theorem x_ishr {x y : Int} (v : Int) (n : Nat) (C : Cx K G N ρ own cc nL fr lo) (d : decode cc pc = .ok (.ishr, 1)) (hn : pc + 1 = n) (hv : iZ x >>> (iZ y &&& 31) = iZ v) (k : Ex K G N ρ sh n lv (.int (iZ v) :: st) (σ)) : Ex K G N ρ sh pc lv (.int (iZ y) :: .int (iZ x) :: st) (σ) := by
  obtain ⟨p, l, e, R, s, m, args, below, meth, c, cells, slots, Q⟩ := K
  obtain ⟨hx, hb, hml, hown, hts, hlk, hK, hI, hO, hfr, hlo, hce, hsl, hN2⟩ := C
  subst hn; intro hR H locs ls hP hS hl
  refine lv_ishr hx hb d ?_
  rw [hv]
  exact k hR H locs ls hP hS hl
theorem x_iand {x y : Int} (v : Int) (n : Nat) (C : Cx K G N ρ own cc nL fr lo) (d : decode cc pc = .ok (.iand, 1)) (hn : pc + 1 = n) (hv : iZ x &&& iZ y = iZ v) (k : Ex K G N ρ sh n lv (.int (iZ v) :: st) (σ)) : Ex K G N ρ sh pc lv (.int (iZ y) :: .int (iZ x) :: st) (σ) := by
  obtain ⟨p, l, e, R, s, m, args, below, meth, c, cells, slots, Q⟩ := K
  obtain ⟨hx, hb, hml, hown, hts, hlk, hK, hI, hO, hfr, hlo, hce, hsl, hN2⟩ := C
  subst hn; intro hR H locs ls hP hS hl
  refine lv_iand hx hb d ?_
  rw [hv]
  exact k hR H locs ls hP hS hl
theorem x_ior {x y : Int} (v : Int) (n : Nat) (C : Cx K G N ρ own cc nL fr lo) (d : decode cc pc = .ok (.ior, 1)) (hn : pc + 1 = n) (hv : iZ x ||| iZ y = iZ v) (k : Ex K G N ρ sh n lv (.int (iZ v) :: st) (σ)) : Ex K G N ρ sh pc lv (.int (iZ y) :: .int (iZ x) :: st) (σ) := by
  obtain ⟨p, l, e, R, s, m, args, below, meth, c, cells, slots, Q⟩ := K
  obtain ⟨hx, hb, hml, hown, hts, hlk, hK, hI, hO, hfr, hlo, hce, hsl, hN2⟩ := C
  subst hn; intro hR H locs ls hP hS hl
  refine lv_ior hx hb d ?_
  rw [hv]
  exact k hR H locs ls hP hS hl
theorem x_iushr {x y : Int} (v : Int) (n : Nat) (C : Cx K G N ρ own cc nL fr lo) (d : decode cc pc = .ok (.iushr, 1)) (hn : pc + 1 = n) (hv : ((iZ x).toUInt32 >>> ((iZ y).toUInt32 &&& Int32.toUInt32 31)).toInt32 = iZ v) (k : Ex K G N ρ sh n lv (.int (iZ v) :: st) (σ)) : Ex K G N ρ sh pc lv (.int (iZ y) :: .int (iZ x) :: st) (σ) := by
  obtain ⟨p, l, e, R, s, m, args, below, meth, c, cells, slots, Q⟩ := K
  obtain ⟨hx, hb, hml, hown, hts, hlk, hK, hI, hO, hfr, hlo, hce, hsl, hN2⟩ := C
  subst hn; intro hR H locs ls hP hS hl
  exact lv_iushr hx hb d hv (k hR H locs ls hP hS hl)
theorem x_i2b {x : Int} (v : Int) (n : Nat) (C : Cx K G N ρ own cc nL fr lo) (d : decode cc pc = .ok (.i2b, 1)) (hn : pc + 1 = n) (hv : (iZ x).toInt8.toInt32 = iZ v) (k : Ex K G N ρ sh n lv (.int (iZ v) :: st) (σ)) : Ex K G N ρ sh pc lv (.int (iZ x) :: st) (σ) := by
  obtain ⟨p, l, e, R, s, m, args, below, meth, c, cells, slots, Q⟩ := K
  obtain ⟨hx, hb, hml, hown, hts, hlk, hK, hI, hO, hfr, hlo, hce, hsl, hN2⟩ := C
  subst hn; intro hR H locs ls hP hS hl
  exact lv_i2b hx hb d hv (k hR H locs ls hP hS hl)
theorem x_i2s {x : Int} (v : Int) (n : Nat) (C : Cx K G N ρ own cc nL fr lo) (d : decode cc pc = .ok (.i2s, 1)) (hn : pc + 1 = n) (hv : (iZ x).toInt16.toInt32 = iZ v) (k : Ex K G N ρ sh n lv (.int (iZ v) :: st) (σ)) : Ex K G N ρ sh pc lv (.int (iZ x) :: st) (σ) := by
  obtain ⟨p, l, e, R, s, m, args, below, meth, c, cells, slots, Q⟩ := K
  obtain ⟨hx, hb, hml, hown, hts, hlk, hK, hI, hO, hfr, hlo, hce, hsl, hN2⟩ := C
  subst hn; intro hR H locs ls hP hS hl
  exact lv_i2s hx hb d hv (k hR H locs ls hP hS hl)
theorem x_wrap {x : Int} (n : Nat) (C : Cx K G N ρ own cc nL fr lo) (hn : pc = n) (k : Ex K G N ρ sh n lv (.int (iZ (wrap x)) :: st) (σ)) : Ex K G N ρ sh pc lv (.int (iZ x) :: st) (σ) := by
  obtain ⟨p, l, e, R, s, m, args, below, meth, c, cells, slots, Q⟩ := K
  obtain ⟨hx, hb, hml, hown, hts, hlk, hK, hI, hO, hfr, hlo, hce, hsl, hN2⟩ := C
  subst hn; intro hR H locs ls hP hS hl
  have h := k hR H locs ls hP hS hl
  rwa [iZ_wrap] at h
theorem x_int {x : Int32} (n : Nat) (C : Cx K G N ρ own cc nL fr lo) (hn : pc = n) (k : ∀ z : Int, (-2147483648 ≤ z ∧ z ≤ 2147483647) → x = iZ z → Ex K G N ρ sh n lv (.int (iZ z) :: st) (σ)) : Ex K G N ρ sh pc lv (.int x :: st) (σ) := by
  obtain ⟨p, l, e, R, s, m, args, below, meth, c, cells, slots, Q⟩ := K
  obtain ⟨hx, hb, hml, hown, hts, hlk, hK, hI, hO, hfr, hlo, hce, hsl, hN2⟩ := C
  subst hn; intro hR H locs ls hP hS hl
  have h := k x.toInt (in32 x) (iZ_of x).symm hR H locs ls hP hS hl
  rwa [iZ_of] at h
theorem x_geti {ci nF j ix : Nat} {fds : List Nat} {C1 ref : String} {T1 : u_T} {lb : Nat} (n : Nat) (C : Cx K G N ρ own cc nL fr lo) (hs : sh lb = cO ci fds) (hN : lb < N) (hf : fds[j]? = some (0)) (hc : vwC[ci]? = some (C1, T1, nF)) (hj : j < nF) (hin : ∀ w ∈ u_ws C1 T1 nF, w ∈ TB) (hw : Cond.fieldLink own ix ref (T1 j).2.1 (T1 j).2.2.1 ∈ TB) (hr : ref = (T1 j).1) (d : decode cc pc = .ok (.getfield ix, 3)) (hn : pc + 3 = n) (k : (-2147483648 ≤ σ lb j ∧ σ lb j ≤ 2147483647) → Ex K G N ρ sh n lv (.int (iZ (σ lb j)) :: st) (σ)) : Ex K G N ρ sh pc lv (.ref (ρ lb) :: st) (σ) := by
  obtain ⟨p, l, e, R, s, m, args, below, meth, c, cells, slots, Q⟩ := K
  obtain ⟨hx, hb, hml, hown, hts, hlk, hK, hI, hO, hfr, hlo, hce, hsl, hN2⟩ := C
  subst hn; intro hR H locs ls hP hS hl
  subst hr
  refine va_get (D := G.1) (C := C1) (T := T1) (N := nF) hx hb hts hin hown hK hP lb (mkW_at hN hs) hc j hj (hts _ hw) (fun _ h => h) ?_ d (k (hR lb j (by omega)) hR H locs ls hP hS hl)
  have := fL_get (ρ := ρ) (σ := σ) (k := lb) fds 0 j _ hf
  rw [Nat.zero_add] at this
  exact this
theorem x_getl {ci nF j ix : Nat} {fds : List Nat} {C1 ref : String} {T1 : u_T} {lb : Nat} (n : Nat) (C : Cx K G N ρ own cc nL fr lo) (hs : sh lb = cO ci fds) (hN : lb < N) (hf : fds[j]? = some (1)) (hc : vwC[ci]? = some (C1, T1, nF)) (hj : j < nF) (hin : ∀ w ∈ u_ws C1 T1 nF, w ∈ TB) (hw : Cond.fieldLink own ix ref (T1 j).2.1 (T1 j).2.2.1 ∈ TB) (hr : ref = (T1 j).1) (d : decode cc pc = .ok (.getfield ix, 3)) (hn : pc + 3 = n) (k : Ex K G N ρ sh n lv (.long (lZ (σ (lb + 1000) j)) :: st) (σ)) : Ex K G N ρ sh pc lv (.ref (ρ lb) :: st) (σ) := by
  obtain ⟨p, l, e, R, s, m, args, below, meth, c, cells, slots, Q⟩ := K
  obtain ⟨hx, hb, hml, hown, hts, hlk, hK, hI, hO, hfr, hlo, hce, hsl, hN2⟩ := C
  subst hn; intro hR H locs ls hP hS hl
  subst hr
  refine va_get (D := G.1) (C := C1) (T := T1) (N := nF) hx hb hts hin hown hK hP lb (mkW_at hN hs) hc j hj (hts _ hw) (fun _ h => h) ?_ d (k hR H locs ls hP hS hl)
  have := fL_get (ρ := ρ) (σ := σ) (k := lb) fds 0 j _ hf
  rw [Nat.zero_add] at this
  exact this
theorem x_getr {ci nF j ix : Nat} {fds : List Nat} {C1 ref : String} {T1 : u_T} {lb : Nat} {l1 : Nat} (n : Nat) (C : Cx K G N ρ own cc nL fr lo) (hs : sh lb = cO ci fds) (hN : lb < N) (hf : fds[j]? = some (l1 + 3)) (hc : vwC[ci]? = some (C1, T1, nF)) (hj : j < nF) (hin : ∀ w ∈ u_ws C1 T1 nF, w ∈ TB) (hw : Cond.fieldLink own ix ref (T1 j).2.1 (T1 j).2.2.1 ∈ TB) (hr : ref = (T1 j).1) (d : decode cc pc = .ok (.getfield ix, 3)) (hn : pc + 3 = n) (k : Ex K G N ρ sh n lv (.ref (ρ l1) :: st) (σ)) : Ex K G N ρ sh pc lv (.ref (ρ lb) :: st) (σ) := by
  obtain ⟨p, l, e, R, s, m, args, below, meth, c, cells, slots, Q⟩ := K
  obtain ⟨hx, hb, hml, hown, hts, hlk, hK, hI, hO, hfr, hlo, hce, hsl, hN2⟩ := C
  subst hn; intro hR H locs ls hP hS hl
  subst hr
  refine va_get (D := G.1) (C := C1) (T := T1) (N := nF) hx hb hts hin hown hK hP lb (mkW_at hN hs) hc j hj (hts _ hw) (fun _ h => h) ?_ d (k hR H locs ls hP hS hl)
  have := fL_get (ρ := ρ) (σ := σ) (k := lb) fds 0 j _ hf
  rw [Nat.zero_add] at this
  exact this
theorem x_puti {ci nF j ix : Nat} {fds : List Nat} {C1 ref : String} {T1 : u_T} {lb : Nat} {z : Int} (ty0 : Nat → FieldType) (n : Nat) (C : Cx K G N ρ own cc nL fr lo) (hs : sh lb = cO ci fds) (hN : lb < N) (hf : fds[j]? = some 0) (hc : vwC[ci]? = some (C1, T1, nF)) (hj : j < nF) (hin : ∀ w ∈ u_ws C1 T1 nF, w ∈ TB) (hty : ∀ k, k < nF → parseFieldDescriptor (T1 k).2.2.1 = some (ty0 k)) (hnm : ∀ a, a < nF → ∀ b, b < nF → a ≠ b → (T1 a).2.1 ≠ (T1 b).2.1) (hw : Cond.fieldLink own ix ref (T1 j).2.1 (T1 j).2.2.1 ∈ TB) (hr : ref = (T1 j).1) (hfi : (T1 j).2.2.2 = false) (hd : parseFieldDescriptor (T1 j).2.2.1 = some .int) (d : decode cc pc = .ok (.putfield ix, 3)) (hn : pc + 3 = n) (hz : -2147483648 ≤ z ∧ z ≤ 2147483647) (k : Ex K G N ρ sh n lv (st) (up σ lb j z)) : Ex K G N ρ sh pc lv (.int (iZ z) :: .ref (ρ lb) :: st) (σ) := by
  obtain ⟨p, l, e, R, s, m, args, below, meth, c, cells, slots, Q⟩ := K
  obtain ⟨hx, hb, hml, hown, hts, hlk, hK, hI, hO, hfr, hlo, hce, hsl, hN2⟩ := C
  subst hn; intro hR H locs ls hP hS hl
  subst hr
  have hlen : j < fds.length := (List.getElem?_eq_some_iff.mp hf).1
  refine va_put (D := G.1) (C := C1) (T := T1) (N := nF) hx hb hts hin ty0 hty hnm hown hK hP (mkW_D hI) hS lb (mkW_at hN hs) hc j hj (hts _ hw) (fun _ h => h) hfi hd (vp_nar_int _) rfl (by rw [fL_len]; exact hlen) d (fun H1 locs1 hP1 _ hS1 => k (Rng_up hR hz) H1 locs1 ls ?_ hS1 hl)
  have e := mkW_set (dA := G.2.1) (N := N) (ρ := ρ) (sh := sh) (σ := σ) (σ' := up σ lb j z) (k := lb) (e := .inr (ci, (fL ρ σ lb 0 fds).set j (.int (iZ z)))) ?_ ?_
  · rw [← e]; exact hP1
  · rw [hs, cE_O, fL_set (σ := σ) (v := .int (iZ z)) fds 0 j hlen]
    · intro i fd hi hij
      unfold fV
      split <;> simp [up, hij]
    · intro fd h
      rw [hf] at h
      obtain rfl := Option.some.inj h
      simp [fV, up]
  · intro i hi hik
    exact cE_row (up_row (by omega)) (up_row (by omega))
theorem x_putz {ci nF j ix : Nat} {fds : List Nat} {C1 ref : String} {T1 : u_T} {lb : Nat} {z : Int} (ty0 : Nat → FieldType) (n : Nat) (C : Cx K G N ρ own cc nL fr lo) (hs : sh lb = cO ci fds) (hN : lb < N) (hf : fds[j]? = some 0) (hc : vwC[ci]? = some (C1, T1, nF)) (hj : j < nF) (hin : ∀ w ∈ u_ws C1 T1 nF, w ∈ TB) (hty : ∀ k, k < nF → parseFieldDescriptor (T1 k).2.2.1 = some (ty0 k)) (hnm : ∀ a, a < nF → ∀ b, b < nF → a ≠ b → (T1 a).2.1 ≠ (T1 b).2.1) (hw : Cond.fieldLink own ix ref (T1 j).2.1 (T1 j).2.2.1 ∈ TB) (hr : ref = (T1 j).1) (hfi : (T1 j).2.2.2 = false) (hd : parseFieldDescriptor (T1 j).2.2.1 = some .boolean) (d : decode cc pc = .ok (.putfield ix, 3)) (hn : pc + 3 = n) (hz : z = 0 ∨ z = 1) (k : Ex K G N ρ sh n lv (st) (up σ lb j z)) : Ex K G N ρ sh pc lv (.int (iZ z) :: .ref (ρ lb) :: st) (σ) := by
  obtain ⟨p, l, e, R, s, m, args, below, meth, c, cells, slots, Q⟩ := K
  obtain ⟨hx, hb, hml, hown, hts, hlk, hK, hI, hO, hfr, hlo, hce, hsl, hN2⟩ := C
  subst hn; intro hR H locs ls hP hS hl
  subst hr
  have hlen : j < fds.length := (List.getElem?_eq_some_iff.mp hf).1
  refine va_put (D := G.1) (C := C1) (T := T1) (N := nF) hx hb hts hin ty0 hty hnm hown hK hP (mkW_D hI) hS lb (mkW_at hN hs) hc j hj (hts _ hw) (fun _ h => h) hfi hd (by rcases hz with rfl | rfl <;> rfl) (by rcases hz with rfl | rfl <;> rfl) (by rw [fL_len]; exact hlen) d (fun H1 locs1 hP1 _ hS1 => k (Rng_up hR (by omega)) H1 locs1 ls ?_ hS1 hl)
  have e := mkW_set (dA := G.2.1) (N := N) (ρ := ρ) (sh := sh) (σ := σ) (σ' := up σ lb j z) (k := lb) (e := .inr (ci, (fL ρ σ lb 0 fds).set j (.int (iZ z)))) ?_ ?_
  · rw [← e]; exact hP1
  · rw [hs, cE_O, fL_set (σ := σ) (v := .int (iZ z)) fds 0 j hlen]
    · intro i fd hi hij
      unfold fV
      split <;> simp [up, hij]
    · intro fd h
      rw [hf] at h
      obtain rfl := Option.some.inj h
      simp [fV, up]
  · intro i hi hik
    exact cE_row (up_row (by omega)) (up_row (by omega))
theorem x_putl {ci nF j ix : Nat} {fds : List Nat} {C1 ref : String} {T1 : u_T} {lb : Nat} {z : Int} (ty0 : Nat → FieldType) (n : Nat) (C : Cx K G N ρ own cc nL fr lo) (hs : sh lb = cO ci fds) (hN : lb < N) (hf : fds[j]? = some 1) (hc : vwC[ci]? = some (C1, T1, nF)) (hj : j < nF) (hin : ∀ w ∈ u_ws C1 T1 nF, w ∈ TB) (hty : ∀ k, k < nF → parseFieldDescriptor (T1 k).2.2.1 = some (ty0 k)) (hnm : ∀ a, a < nF → ∀ b, b < nF → a ≠ b → (T1 a).2.1 ≠ (T1 b).2.1) (hw : Cond.fieldLink own ix ref (T1 j).2.1 (T1 j).2.2.1 ∈ TB) (hr : ref = (T1 j).1) (hfi : (T1 j).2.2.2 = false) (hd : parseFieldDescriptor (T1 j).2.2.1 = some .long) (d : decode cc pc = .ok (.putfield ix, 3)) (hn : pc + 3 = n) (k : Ex K G N ρ sh n lv (st) (up σ (lb + 1000) j z)) : Ex K G N ρ sh pc lv (.long (lZ z) :: .ref (ρ lb) :: st) (σ) := by
  obtain ⟨p, l, e, R, s, m, args, below, meth, c, cells, slots, Q⟩ := K
  obtain ⟨hx, hb, hml, hown, hts, hlk, hK, hI, hO, hfr, hlo, hce, hsl, hN2⟩ := C
  subst hn; intro hR H locs ls hP hS hl
  subst hr
  have hlen : j < fds.length := (List.getElem?_eq_some_iff.mp hf).1
  refine va_put (D := G.1) (C := C1) (T := T1) (N := nF) hx hb hts hin ty0 hty hnm hown hK hP (mkW_D hI) hS lb (mkW_at hN hs) hc j hj (hts _ hw) (fun _ h => h) hfi hd rfl rfl (by rw [fL_len]; exact hlen) d (fun H1 locs1 hP1 _ hS1 => k (Rng_upl hR) H1 locs1 ls ?_ hS1 hl)
  have e := mkW_set (dA := G.2.1) (N := N) (ρ := ρ) (sh := sh) (σ := σ) (σ' := up σ (lb + 1000) j z) (k := lb) (e := .inr (ci, (fL ρ σ lb 0 fds).set j (.long (lZ z)))) ?_ ?_
  · rw [← e]; exact hP1
  · rw [hs, cE_O, fL_set (σ := σ) (v := .long (lZ z)) fds 0 j hlen]
    · intro i fd hi hij
      unfold fV
      split <;> simp [up, hij]
    · intro fd h
      rw [hf] at h
      obtain rfl := Option.some.inj h
      simp [fV, up]
  · intro i hi hik
    exact cE_row (up_row (by omega)) (up_row (by omega))
theorem x_iald {lb len : Nat} {i : Int} (n : Nat) (C : Cx K G N ρ own cc nL fr lo) (hs : sh lb = cA len) (hN : lb < N) (d : decode cc pc = .ok (.iaload, 1)) (hn : pc + 1 = n) (h1 : 0 ≤ i ∧ i < len) (hle : (len : Int) ≤ 2147483647) (k : (-2147483648 ≤ σ lb i.toNat ∧ σ lb i.toNat ≤ 2147483647) → Ex K G N ρ sh n lv (.int (iZ (σ lb i.toNat)) :: st) (σ)) : Ex K G N ρ sh pc lv (.int (iZ i) :: .ref (ρ lb) :: st) (σ) := by
  obtain ⟨p, l, e, R, s, m, args, below, meth, c, cells, slots, Q⟩ := K
  obtain ⟨hx, hb, hml, hown, hts, hlk, hK, hI, hO, hfr, hlo, hce, hsl, hN2⟩ := C
  subst hn; intro hR H locs ls hP hS hl
  refine va_iald hx hb hK hP lb 0 (mkW_at hN hs) rfl (iZ_in h1 (by omega)) d ?_
  rw [iZ_clamp (by omega)]
  exact k (hR lb _ (by omega)) hR H locs ls hP hS hl
theorem x_zald {lb len : Nat} {i : Int} (n : Nat) (C : Cx K G N ρ own cc nL fr lo) (hs : sh lb = cZ len) (hN : lb < N) (d : decode cc pc = .ok (.baload, 1)) (hn : pc + 1 = n) (h1 : 0 ≤ i ∧ i < len) (hle : (len : Int) ≤ 2147483647) (k : (-2147483648 ≤ σ lb i.toNat ∧ σ lb i.toNat ≤ 2147483647) → Ex K G N ρ sh n lv (.int (iZ (σ lb i.toNat)) :: st) (σ)) : Ex K G N ρ sh pc lv (.int (iZ i) :: .ref (ρ lb) :: st) (σ) := by
  obtain ⟨p, l, e, R, s, m, args, below, meth, c, cells, slots, Q⟩ := K
  obtain ⟨hx, hb, hml, hown, hts, hlk, hK, hI, hO, hfr, hlo, hce, hsl, hN2⟩ := C
  subst hn; intro hR H locs ls hP hS hl
  refine va_zald hx hb hK hP lb 2 (mkW_at hN hs) rfl (iZ_in h1 (by omega)) d ?_
  rw [iZ_clamp (by omega)]
  exact k (hR lb _ (by omega)) hR H locs ls hP hS hl
theorem x_iast {lb len : Nat} {i z : Int} (n : Nat) (C : Cx K G N ρ own cc nL fr lo) (hs : sh lb = cA len) (hN : lb < N) (d : decode cc pc = .ok (.iastore, 1)) (hn : pc + 1 = n) (h1 : 0 ≤ i ∧ i < len) (hle : (len : Int) ≤ 2147483647) (hz : -2147483648 ≤ z ∧ z ≤ 2147483647) (k : Ex K G N ρ sh n lv (st) (up σ lb i.toNat z)) : Ex K G N ρ sh pc lv (.int (iZ z) :: .int (iZ i) :: .ref (ρ lb) :: st) (σ) := by
  obtain ⟨p, l, e, R, s, m, args, below, meth, c, cells, slots, Q⟩ := K
  obtain ⟨hx, hb, hml, hown, hts, hlk, hK, hI, hO, hfr, hlo, hce, hsl, hN2⟩ := C
  subst hn; intro hR H locs ls hP hS hl
  refine va_iast hx hb hK hP (mkW_D hI) hS lb 0 (mkW_at hN hs) rfl (iZ_in h1 (by omega)) d (fun H1 locs1 hP1 _ hS1 => k (Rng_up hR (by omega)) H1 locs1 ls ?_ hS1 hl)
  have e := mkW_set (dA := G.2.1) (N := N) (ρ := ρ) (sh := sh) (σ := σ) (σ' := up σ lb i.toNat z) (k := lb) (e := .inl (G.2.1 0, len, .inl (upd (fun j => iZ (σ lb j)) (iZ i).toNatClampNeg (iZ z)))) ?_ ?_
  · rw [← e]; exact hP1
  · rw [hs, cE_A, iZ_clamp (by omega)]
    refine congrArg (fun f => (Sum.inl (G.2.1 0, len, Sum.inl f) : va_E)) (funext fun j => ?_)
    by_cases hj : j = i.toNat
    · simp [up, upd, hj]
    · simp [up, upd, hj]
  · intro q hq hqk
    exact cE_row (up_row (by omega)) (up_row (by omega))
theorem x_zast {lb len : Nat} {i z : Int} (n : Nat) (C : Cx K G N ρ own cc nL fr lo) (hs : sh lb = cZ len) (hN : lb < N) (d : decode cc pc = .ok (.bastore, 1)) (hn : pc + 1 = n) (h1 : 0 ≤ i ∧ i < len) (hle : (len : Int) ≤ 2147483647) (hz : z = 0 ∨ z = 1) (k : Ex K G N ρ sh n lv (st) (up σ lb i.toNat z)) : Ex K G N ρ sh pc lv (.int (iZ z) :: .int (iZ i) :: .ref (ρ lb) :: st) (σ) := by
  obtain ⟨p, l, e, R, s, m, args, below, meth, c, cells, slots, Q⟩ := K
  obtain ⟨hx, hb, hml, hown, hts, hlk, hK, hI, hO, hfr, hlo, hce, hsl, hN2⟩ := C
  subst hn; intro hR H locs ls hP hS hl
  refine va_zast hx hb hK hP (mkW_D hI) hS lb 2 (mkW_at hN hs) rfl (iZ_in h1 (by omega)) d (fun H1 locs1 hP1 _ hS1 => k (Rng_up hR (by omega)) H1 locs1 ls ?_ hS1 hl)
  have e := mkW_set (dA := G.2.1) (N := N) (ρ := ρ) (sh := sh) (σ := σ) (σ' := up σ lb i.toNat z) (k := lb) (e := .inl (G.2.1 2, len, .inl (upd (fun j => iZ (σ lb j)) (iZ i).toNatClampNeg (vp_nar .boolean (iZ z))))) ?_ ?_
  · rw [← e]; exact hP1
  · rw [hs, cE_Z, iZ_clamp (by omega)]
    refine congrArg (fun f => (Sum.inl (G.2.1 2, len, Sum.inl f) : va_E)) (funext fun j => ?_)
    by_cases hj : j = i.toNat
    · simp [up, upd, hj]; rcases hz with rfl | rfl <;> rfl
    · simp [up, upd, hj]
  · intro q hq hqk
    exact cE_row (up_row (by omega)) (up_row (by omega))
theorem x_lald {lb len : Nat} {i : Int} (n : Nat) (C : Cx K G N ρ own cc nL fr lo) (hs : sh lb = cJ len) (hN : lb < N) (d : decode cc pc = .ok (.laload, 1)) (hn : pc + 1 = n) (h1 : 0 ≤ i ∧ i < len) (hle : (len : Int) ≤ 2147483647) (k : Ex K G N ρ sh n lv (.long (lZ (σ (lb + 1000) i.toNat)) :: st) (σ)) : Ex K G N ρ sh pc lv (.int (iZ i) :: .ref (ρ lb) :: st) (σ) := by
  obtain ⟨p, l, e, R, s, m, args, below, meth, c, cells, slots, Q⟩ := K
  obtain ⟨hx, hb, hml, hown, hts, hlk, hK, hI, hO, hfr, hlo, hce, hsl, hN2⟩ := C
  subst hn; intro hR H locs ls hP hS hl
  refine va_lald hx hb hK hP lb 1 (mkW_at hN hs) rfl (iZ_in h1 (by omega)) d ?_
  rw [iZ_clamp (by omega)]
  exact k hR H locs ls hP hS hl
theorem x_last {lb len : Nat} {i z : Int} (n : Nat) (C : Cx K G N ρ own cc nL fr lo) (hs : sh lb = cJ len) (hN : lb < N) (d : decode cc pc = .ok (.lastore, 1)) (hn : pc + 1 = n) (h1 : 0 ≤ i ∧ i < len) (hle : (len : Int) ≤ 2147483647) (k : Ex K G N ρ sh n lv (st) (up σ (lb + 1000) i.toNat z)) : Ex K G N ρ sh pc lv (.long (lZ z) :: .int (iZ i) :: .ref (ρ lb) :: st) (σ) := by
  obtain ⟨p, l, e, R, s, m, args, below, meth, c, cells, slots, Q⟩ := K
  obtain ⟨hx, hb, hml, hown, hts, hlk, hK, hI, hO, hfr, hlo, hce, hsl, hN2⟩ := C
  subst hn; intro hR H locs ls hP hS hl
  refine va_last hx hb hK hP (mkW_D hI) hS lb 1 (mkW_at hN hs) rfl (iZ_in h1 (by omega)) d (fun H1 locs1 hP1 _ hS1 => k (Rng_upl hR) H1 locs1 ls ?_ hS1 hl)
  have e := mkW_set (dA := G.2.1) (N := N) (ρ := ρ) (sh := sh) (σ := σ) (σ' := up σ (lb + 1000) i.toNat z) (k := lb) (e := .inl (G.2.1 1, len, .inr (.inl (vp_updL (fun j => lZ (σ (lb + 1000) j)) (iZ i).toNatClampNeg (lZ z))))) ?_ ?_
  · rw [← e]; exact hP1
  · rw [hs, cE_J, iZ_clamp (by omega)]
    refine congrArg (fun f => (Sum.inl (G.2.1 1, len, Sum.inr (Sum.inl f)) : va_E)) (funext fun j => ?_)
    by_cases hj : j = i.toNat
    · simp [up, vp_updL, hj]
    · simp [up, vp_updL, hj]
  · intro q hq hqk
    exact cE_row (up_row (by omega)) (up_row (by omega))
theorem x_aald0 {lb len q : Nat} {f : Nat → Option Nat} {i : Int} (n : Nat) (C : Cx K G N ρ own cc nL fr lo) (hs : sh lb = cR 0 len f) (hN : lb < N) (d : decode cc pc = .ok (.aaload, 1)) (hn : pc + 1 = n) (h1 : 0 ≤ i ∧ i < len) (hle : (len : Int) ≤ 2147483647) (hq : f i.toNat = some q) (k : Ex K G N ρ sh n lv (.ref (ρ q) :: st) (σ)) : Ex K G N ρ sh pc lv (.int (iZ i) :: .ref (ρ lb) :: st) (σ) := by
  obtain ⟨p, l, e, R, s, m, args, below, meth, c, cells, slots, Q⟩ := K
  obtain ⟨hx, hb, hml, hown, hts, hlk, hK, hI, hO, hfr, hlo, hce, hsl, hN2⟩ := C
  subst hn; intro hR H locs ls hP hS hl
  refine va_aldq hx hb hK hP lb 3 ((mkW_at hN hs).trans (by rw [cE_R0])) rfl (iZ_in h1 (by omega)) d ?_
  rw [iZ_clamp (by omega), hq]
  exact k hR H locs ls hP hS hl
theorem x_aald1 {lb len q : Nat} {f : Nat → Option Nat} {i : Int} (n : Nat) (C : Cx K G N ρ own cc nL fr lo) (hs : sh lb = cR 1 len f) (hN : lb < N) (d : decode cc pc = .ok (.aaload, 1)) (hn : pc + 1 = n) (h1 : 0 ≤ i ∧ i < len) (hle : (len : Int) ≤ 2147483647) (hq : f i.toNat = some q) (k : Ex K G N ρ sh n lv (.ref (ρ q) :: st) (σ)) : Ex K G N ρ sh pc lv (.int (iZ i) :: .ref (ρ lb) :: st) (σ) := by
  obtain ⟨p, l, e, R, s, m, args, below, meth, c, cells, slots, Q⟩ := K
  obtain ⟨hx, hb, hml, hown, hts, hlk, hK, hI, hO, hfr, hlo, hce, hsl, hN2⟩ := C
  subst hn; intro hR H locs ls hP hS hl
  refine va_aldq hx hb hK hP lb 4 ((mkW_at hN hs).trans (by rw [cE_R1])) rfl (iZ_in h1 (by omega)) d ?_
  rw [iZ_clamp (by omega), hq]
  exact k hR H locs ls hP hS hl
theorem x_aald2 {lb len q : Nat} {f : Nat → Option Nat} {i : Int} (n : Nat) (C : Cx K G N ρ own cc nL fr lo) (hs : sh lb = cR 2 len f) (hN : lb < N) (d : decode cc pc = .ok (.aaload, 1)) (hn : pc + 1 = n) (h1 : 0 ≤ i ∧ i < len) (hle : (len : Int) ≤ 2147483647) (hq : f i.toNat = some q) (k : Ex K G N ρ sh n lv (.ref (ρ q) :: st) (σ)) : Ex K G N ρ sh pc lv (.int (iZ i) :: .ref (ρ lb) :: st) (σ) := by
  obtain ⟨p, l, e, R, s, m, args, below, meth, c, cells, slots, Q⟩ := K
  obtain ⟨hx, hb, hml, hown, hts, hlk, hK, hI, hO, hfr, hlo, hce, hsl, hN2⟩ := C
  subst hn; intro hR H locs ls hP hS hl
  refine va_aldq hx hb hK hP lb 5 ((mkW_at hN hs).trans (by rw [cE_R2])) rfl (iZ_in h1 (by omega)) d ?_
  rw [iZ_clamp (by omega), hq]
  exact k hR H locs ls hP hS hl
theorem x_alen {lb len : Nat} (n : Nat) (C : Cx K G N ρ own cc nL fr lo) (hs : sh lb = cA len) (hN : lb < N) (d : decode cc pc = .ok (.arraylength, 1)) (hn : pc + 1 = n) (k : Ex K G N ρ sh n lv (.int (iZ (len : Int)) :: st) (σ)) : Ex K G N ρ sh pc lv (.ref (ρ lb) :: st) (σ) := by
  obtain ⟨p, l, e, R, s, m, args, below, meth, c, cells, slots, Q⟩ := K
  obtain ⟨hx, hb, hml, hown, hts, hlk, hK, hI, hO, hfr, hlo, hce, hsl, hN2⟩ := C
  subst hn; intro hR H locs ls hP hS hl
  exact va_alen hx hb hK hP lb 0 (mkW_at hN hs) rfl (iZ_nat len) d (k hR H locs ls hP hS hl)
end ROWS
