def chS (j i : Nat) : Int := (([[115, 101, 101, 115, 32, 49, 32, 59, 32, 119, 111, 114, 116, 104, 32, 48, 32, 59, 32, 115, 108, 101, 101, 112, 32, 50, 51, 32, 45, 32, 109, 105, 110, 117, 116, 101, 32, 59], [102, 97, 114, 32, 109, 105, 110, 117, 116, 101, 32, 102, 111, 103, 32, 104, 105, 103, 104, 32, 111, 110, 101, 32, 116, 104, 105, 110, 103, 32, 115, 101, 101, 115, 32, 119, 111, 114, 116, 104, 32, 115, 108, 101, 101, 112, 32, 111, 114, 32, 97, 110, 100, 32, 110, 111, 116, 32]] : List (List Int)).getD j []).getD i 0
theorem chS_all : ∀ j, j < 2 → ∀ i, i < stL.getD j 0 → ((stB.getD j []).getD i 0 = iZ (chS j i) ∧ 0 ≤ chS j i ∧ chS j i ≤ 127) := by decide +kernel
theorem ch_all : ∀ n : Nat, n < 128 → (iZ (n : Int) &&& iZ 255 = iZ (n : Int) ∧ ((iZ (n : Int)).toUInt32 % 65536).toInt32 = iZ (n : Int) ∧ narrow .char (.int (iZ (n : Int))) = .int (iZ (n : Int))) := by decide +kernel
theorem ch_ok {x : Int} (h : 0 ≤ x ∧ x ≤ 127) : iZ x &&& iZ 255 = iZ x ∧ ((iZ x).toUInt32 % 65536).toInt32 = iZ x ∧ narrow .char (.int (iZ x)) = .int (iZ x) := by
  have := ch_all x.toNat (by omega)
  rwa [show ((x.toNat : Nat) : Int) = x by omega] at this
section ROWS
variable {K : Mk} {G : Gt} {N : Nat} {ρ : Nat → Nat} {sh : Nat → Shc} {own : String} {cc : ByteArray} {nL fr lo : Nat} {pc n : Nat} {lv : List (Option Value)} {st : List Value} {σ : Sig}
variable {post : Option Value → Sig → Prop}
theorem x_getsC {ix : Nat} (n : Nat) (C : Cx K G N ρ own cc nL fr lo) (hw : Cond.fieldLink own ix "java/lang/String" "COMPACT_STRINGS" "Z" ∈ TB) (d : decode cc pc = .ok (.getstatic ix, 3)) (hn : pc + 3 = n) (k : Ex K G N ρ sh n lv (.int (iZ 1) :: st) (σ)) : Ex K G N ρ sh pc lv (st) (σ) := by
  obtain ⟨p, l, e, R, s, m, args, below, meth, c, cells, slots, Q⟩ := K
  obtain ⟨hx, hb, hml, hown, hts, hlk, hK, hI, hO, hfr, hlo, hce, hsl, hN2⟩ := C
  subst hn; intro hR H locs ls hP hS hl
  exact va_gets hx hb hO.2.2.2.1 hS hown (hts _ hw) (fun _ h => h) d (k hR H locs ls hP hS hl)
theorem x_getsF {ix : Nat} (n : Nat) (C : Cx K G N ρ own cc nL fr lo) (hw : Cond.fieldLink own ix "jdk/internal/util/Preconditions" "SIOOBE_FORMATTER" "Ljava/util/function/BiFunction;" ∈ TB) (d : decode cc pc = .ok (.getstatic ix, 3)) (hn : pc + 3 = n) (k1 : Ex K G N ρ sh n lv (.null :: st) (σ)) (k2 : ∀ t : Nat, Ex K G N ρ sh n lv (.ref t :: st) (σ)) : Ex K G N ρ sh pc lv (st) (σ) := by
  obtain ⟨p, l, e, R, s, m, args, below, meth, c, cells, slots, Q⟩ := K
  obtain ⟨hx, hb, hml, hown, hts, hlk, hK, hI, hO, hfr, hlo, hce, hsl, hN2⟩ := C
  subst hn; intro hR H locs ls hP hS hl
  rcases hO.2.2.2.2.1 with h | ⟨t, h⟩
  · exact va_gets hx hb h hS hown (hts _ hw) (fun _ h => h) d (k1 hR H locs ls hP hS hl)
  · exact va_gets hx hb h hS hown (hts _ hw) (fun _ h => h) d (k2 t hR H locs ls hP hS hl)
theorem x_sval {ix j : Nat} (n : Nat) (C : Cx K G N ρ own cc nL fr lo) (hj : j < 2) (hw : Cond.fieldLink own ix "java/lang/String" "value" "[B" ∈ TB) (d : decode cc pc = .ok (.getfield ix, 3)) (hn : pc + 3 = n) (k : Ex K G N ρ sh n lv (.ref (G.2.2 (20 + j)) :: st) (σ)) : Ex K G N ρ sh pc lv (.ref (G.2.2 (10 + j)) :: st) (σ) := by
  obtain ⟨p, l, e, R, s, m, args, below, meth, c, cells, slots, Q⟩ := K
  obtain ⟨hx, hb, hml, hown, hts, hlk, hK, hI, hO, hfr, hlo, hce, hsl, hN2⟩ := C
  subst hn; intro hR H locs ls hP hS hl
  exact vk_getf hx hb (hO.2.2.2.2.2.1.1 j hj).2.2.1 hS hown (hts _ hw) (fun _ h => h) d (k hR H locs ls hP hS hl)
theorem x_scod {ix j : Nat} (n : Nat) (C : Cx K G N ρ own cc nL fr lo) (hj : j < 2) (hw : Cond.fieldLink own ix "java/lang/String" "coder" "B" ∈ TB) (d : decode cc pc = .ok (.getfield ix, 3)) (hn : pc + 3 = n) (k : Ex K G N ρ sh n lv (.int (iZ 0) :: st) (σ)) : Ex K G N ρ sh pc lv (.ref (G.2.2 (10 + j)) :: st) (σ) := by
  obtain ⟨p, l, e, R, s, m, args, below, meth, c, cells, slots, Q⟩ := K
  obtain ⟨hx, hb, hml, hown, hts, hlk, hK, hI, hO, hfr, hlo, hce, hsl, hN2⟩ := C
  subst hn; intro hR H locs ls hP hS hl
  exact vk_getf hx hb (hO.2.2.2.2.2.1.1 j hj).2.1 hS hown (hts _ hw) (fun _ h => h) d (k hR H locs ls hP hS hl)
theorem x_slen {j : Nat} (n : Nat) (C : Cx K G N ρ own cc nL fr lo) (hj : j < 2) (d : decode cc pc = .ok (.arraylength, 1)) (hn : pc + 1 = n) (k : Ex K G N ρ sh n lv (.int (iZ (stL.getD j 0 : Int)) :: st) (σ)) : Ex K G N ρ sh pc lv (.ref (G.2.2 (20 + j)) :: st) (σ) := by
  obtain ⟨p, l, e, R, s, m, args, below, meth, c, cells, slots, Q⟩ := K
  obtain ⟨hx, hb, hml, hown, hts, hlk, hK, hI, hO, hfr, hlo, hce, hsl, hN2⟩ := C
  subst hn; intro hR H locs ls hP hS hl
  exact va_tlen hx hb (hO.2.2.2.2.2.1.1 j hj).2.2.2 hS (iZ_nat _) d (k hR H locs ls hP hS hl)
theorem x_sbyt {j : Nat} {i : Int} (n : Nat) (C : Cx K G N ρ own cc nL fr lo) (hj : j < 2) (h1 : 0 ≤ i ∧ i < (stL.getD j 0 : Nat)) (h2 : i ≤ 2147483647) (d : decode cc pc = .ok (.baload, 1)) (hn : pc + 1 = n) (k : Ex K G N ρ sh n lv (.int (iZ (chS j i.toNat)) :: st) (σ)) : Ex K G N ρ sh pc lv (.int (iZ i) :: .ref (G.2.2 (20 + j)) :: st) (σ) := by
  obtain ⟨p, l, e, R, s, m, args, below, meth, c, cells, slots, Q⟩ := K
  obtain ⟨hx, hb, hml, hown, hts, hlk, hK, hI, hO, hfr, hlo, hce, hsl, hN2⟩ := C
  subst hn; intro hR H locs ls hP hS hl
  exact va_tb hx hb (hO.2.2.2.2.2.1.1 j hj).2.2.2 hS (iZ_in h1 h2) (by rw [iZ_clamp (by omega), (chS_all j hj i.toNat (by omega)).1]) d (k hR H locs ls hP hS hl)
theorem x_ldcW (n : Nat) (C : Cx K G N ρ own cc nL fr lo) (ho : own = "FirstSeen$Reader") (d : decode cc pc = .ok (.ldc 98, 2)) (hn : pc + 2 = n) (k : Ex K G N ρ sh n lv (.ref (G.2.2 (10 + 1)) :: st) (σ)) : Ex K G N ρ sh pc lv (st) (σ) := by
  obtain ⟨p, l, e, R, s, m, args, below, meth, c, cells, slots, Q⟩ := K
  obtain ⟨hx, hb, hml, hown, hts, hlk, hK, hI, hO, hfr, hlo, hce, hsl, hN2⟩ := C
  subst hn; intro hR H locs ls hP hS hl
  subst ho
  exact va_ldcS hx hb hown hO.2.2.2.2.2.2.2.2.1 d (k hR H locs ls hP hS hl)
theorem x_ldcT (n : Nat) (C : Cx K G N ρ own cc nL fr lo) (ho : own = "FirstSeen") (d : decode cc pc = .ok (.ldc 48, 2)) (hn : pc + 2 = n) (k : Ex K G N ρ sh n lv (.ref (G.2.2 (10 + 0)) :: st) (σ)) : Ex K G N ρ sh pc lv (st) (σ) := by
  obtain ⟨p, l, e, R, s, m, args, below, meth, c, cells, slots, Q⟩ := K
  obtain ⟨hx, hb, hml, hown, hts, hlk, hK, hI, hO, hfr, hlo, hce, hsl, hN2⟩ := C
  subst hn; intro hR H locs ls hP hS hl
  subst ho
  exact va_ldcS hx hb hown hO.2.2.2.2.2.2.2.1 d (k hR H locs ls hP hS hl)
theorem x_i2c {x : Int} (v : Int) (n : Nat) (C : Cx K G N ρ own cc nL fr lo) (d : decode cc pc = .ok (.i2c, 1)) (hn : pc + 1 = n) (hv : ((iZ x).toUInt32 % 65536).toInt32 = iZ v) (k : Ex K G N ρ sh n lv (.int (iZ v) :: st) (σ)) : Ex K G N ρ sh pc lv (.int (iZ x) :: st) (σ) := by
  obtain ⟨p, l, e, R, s, m, args, below, meth, c, cells, slots, Q⟩ := K
  obtain ⟨hx, hb, hml, hown, hts, hlk, hK, hI, hO, hfr, hlo, hce, hsl, hN2⟩ := C
  subst hn; intro hR H locs ls hP hS hl
  exact lv_i2c hx hb d hv (k hR H locs ls hP hS hl)
theorem x_callVs {y : MethodName} {bytes : ByteArray} {mL fc lc ix : Nat} {rt : Option FieldType} {st0 As : List Value} {na : Nat} {j : Nat} (n : Nat) (C : Cx K G N ρ own cc nL fr lo) (d : decode cc pc = .ok (.invokevirtual ix, 3)) (hn : pc + 3 = n) (hM : MX K.2.1 y bytes mL rt fc lc G N ρ sh (.ref (G.2.2 (10 + j)) :: As) σ post) (hj : j < 2) (w1 : Cond.methodLink own ix y ∈ TB) (w2 : Cond.instanceMethod y ∈ TB) (w3 : Cond.selects "java/lang/String" y y ∈ TB) (w4 : Cond.initialized "java/lang/String" ∈ TB) (w5 : Cond.code y bytes mL rt ∈ TB) (hd : y.cls = "java/lang/String" ∧ y.cls ≠ "java/lang/invoke/MethodHandle" ∧ y.cls ≠ "java/lang/invoke/VarHandle" ∧ (parseMethodDescriptor y.desc).map (fun d => d.parameters.length) = some na) (hna : As.length = na) (hro : fc + 1 ≤ fr ∧ 8 + (mL + 11) + lc ≤ lo) (hst : st0 = As.reverse ++ .ref (G.2.2 (10 + j)) :: st) (h8 : (st.map fun v => v.category).sum ≤ 8) (hlv : lv.length = nL) (k : ∀ (r : Option Value) (σ1 : Sig), post r σ1 → Rng σ1 → Ex K G N ρ sh n lv (r.toList ++ st) σ1) : Ex K G N ρ sh pc lv (st0) (σ) := by
  obtain ⟨p, l, e, R, s, m, args, below, meth, c, cells, slots, Q⟩ := K
  obtain ⟨hx, hb, hml, hown, hts, hlk, hK, hI, hO, hfr, hlo, hce, hsl, hN2⟩ := C
  subst hn; subst hst; intro hR H locs ls hP hS hl
  have hrun := va_runV (e := e) (below := below) (meth := meth) (As := As) (rest := st) (H := H) (locs := locs) (g := F0 m pc ls (As.reverse ++ .ref (G.2.2 (10 + j)) :: st)) ⟨hx, hb, hml, hown, hts⟩ (hM H.size) (cwV (R := R) na hts (good_app (good_4 w1 w2 w3 w4) (good_all w5)) rfl rfl rfl hd ⟨Nat.le_trans hro.1 hfr, Nat.le_trans hro.2 hlo⟩) ⟨Rep_blind, vk_recv hO.2.2.2.2.2.1 hj hS, fun U hU hW => ⟨rfl, by rw [hU], Rep_call hN2 hI hR hP hK hO hS hU hW⟩⟩ rfl hna (hl.1.trans hlv) rfl (lv_room h8) d ⟨hce, hsl⟩
  intro T hT X
  obtain ⟨v, st₀, t, T', L, h0, X', hL, e1, e2, ⟨⟨r, σ1, hv, hp, hR1, hP1⟩, hz, hk⟩, stp⟩ := hrun T hT X
  cases hv
  rw [h0] at hz hk
  obtain ⟨t2, a1, b1⟩ := k v σ1 hp hR1 hR1 T'.heap (locs ++ L) ls (by rw [e1]; exact hP1)
    ⟨Nat.le_trans hS.1 (by rw [e1]; exact hz), fun q h1 h2 => by rw [e1, hk q (Nat.lt_of_lt_of_le h1 hS.1) (fun z => h2 (AX_mono hS.1 q z))]; exact hS.2.1 q h1 h2, fun q hq => by
      rcases List.mem_append.mp hq with h | h
      · exact hS.2.2 q h
      · exact AX_mono hS.1 _ (hL q h)⟩ hl T' rfl X'
  exact ⟨t2, stp t2 a1, b1⟩
theorem x_callVse {e0 : Int} {y : MethodName} {bytes : ByteArray} {mL fc lc ix : Nat} {rt : Option FieldType} {st0 As : List Value} {na : Nat} {j : Nat} (n : Nat) (C : Cx K G N ρ own cc nL fr lo) (d : decode cc pc = .ok (.invokevirtual ix, 3)) (hn : pc + 3 = n) (hM : MX K.2.1 y bytes mL rt fc lc G N ρ sh (.ref (G.2.2 (10 + j)) :: As) σ (PE σ e0)) (hj : j < 2) (w1 : Cond.methodLink own ix y ∈ TB) (w2 : Cond.instanceMethod y ∈ TB) (w3 : Cond.selects "java/lang/String" y y ∈ TB) (w4 : Cond.initialized "java/lang/String" ∈ TB) (w5 : Cond.code y bytes mL rt ∈ TB) (hd : y.cls = "java/lang/String" ∧ y.cls ≠ "java/lang/invoke/MethodHandle" ∧ y.cls ≠ "java/lang/invoke/VarHandle" ∧ (parseMethodDescriptor y.desc).map (fun d => d.parameters.length) = some na) (hna : As.length = na) (hro : fc + 1 ≤ fr ∧ 8 + (mL + 11) + lc ≤ lo) (hst : st0 = As.reverse ++ .ref (G.2.2 (10 + j)) :: st) (h8 : (st.map fun v => v.category).sum ≤ 8) (hlv : lv.length = nL) (k : (-2147483648 ≤ e0 ∧ e0 ≤ 2147483647) → Ex K G N ρ sh n lv (.int (iZ e0) :: st) σ) : Ex K G N ρ sh pc lv (st0) (σ) := x_callVs n C d hn hM hj w1 w2 w3 w4 w5 hd hna hro hst h8 hlv (fun r s1 hp hr => by obtain ⟨rfl, h1, rfl⟩ := hp; exact k h1)
theorem x_callVsi {q : Int → Sig → Prop} {y : MethodName} {bytes : ByteArray} {mL fc lc ix : Nat} {rt : Option FieldType} {st0 As : List Value} {na : Nat} {j : Nat} (n : Nat) (C : Cx K G N ρ own cc nL fr lo) (d : decode cc pc = .ok (.invokevirtual ix, 3)) (hn : pc + 3 = n) (hM : MX K.2.1 y bytes mL rt fc lc G N ρ sh (.ref (G.2.2 (10 + j)) :: As) σ (PI q)) (hj : j < 2) (w1 : Cond.methodLink own ix y ∈ TB) (w2 : Cond.instanceMethod y ∈ TB) (w3 : Cond.selects "java/lang/String" y y ∈ TB) (w4 : Cond.initialized "java/lang/String" ∈ TB) (w5 : Cond.code y bytes mL rt ∈ TB) (hd : y.cls = "java/lang/String" ∧ y.cls ≠ "java/lang/invoke/MethodHandle" ∧ y.cls ≠ "java/lang/invoke/VarHandle" ∧ (parseMethodDescriptor y.desc).map (fun d => d.parameters.length) = some na) (hna : As.length = na) (hro : fc + 1 ≤ fr ∧ 8 + (mL + 11) + lc ≤ lo) (hst : st0 = As.reverse ++ .ref (G.2.2 (10 + j)) :: st) (h8 : (st.map fun v => v.category).sum ≤ 8) (hlv : lv.length = nL) (k : ∀ (z : Int) (s1 : Sig), (-2147483648 ≤ z ∧ z ≤ 2147483647) → q z s1 → Rng s1 → Ex K G N ρ sh n lv (.int (iZ z) :: st) s1) : Ex K G N ρ sh pc lv (st0) (σ) := x_callVs n C d hn hM hj w1 w2 w3 w4 w5 hd hna hro hst h8 hlv (fun r s1 hp hr => by obtain ⟨z, rfl, h1, h2⟩ := hp; exact k z s1 h1 h2 hr)
theorem x_callVsv {qv : Sig → Prop} {y : MethodName} {bytes : ByteArray} {mL fc lc ix : Nat} {rt : Option FieldType} {st0 As : List Value} {na : Nat} {j : Nat} (n : Nat) (C : Cx K G N ρ own cc nL fr lo) (d : decode cc pc = .ok (.invokevirtual ix, 3)) (hn : pc + 3 = n) (hM : MX K.2.1 y bytes mL rt fc lc G N ρ sh (.ref (G.2.2 (10 + j)) :: As) σ (PV qv)) (hj : j < 2) (w1 : Cond.methodLink own ix y ∈ TB) (w2 : Cond.instanceMethod y ∈ TB) (w3 : Cond.selects "java/lang/String" y y ∈ TB) (w4 : Cond.initialized "java/lang/String" ∈ TB) (w5 : Cond.code y bytes mL rt ∈ TB) (hd : y.cls = "java/lang/String" ∧ y.cls ≠ "java/lang/invoke/MethodHandle" ∧ y.cls ≠ "java/lang/invoke/VarHandle" ∧ (parseMethodDescriptor y.desc).map (fun d => d.parameters.length) = some na) (hna : As.length = na) (hro : fc + 1 ≤ fr ∧ 8 + (mL + 11) + lc ≤ lo) (hst : st0 = As.reverse ++ .ref (G.2.2 (10 + j)) :: st) (h8 : (st.map fun v => v.category).sum ≤ 8) (hlv : lv.length = nL) (k : ∀ (s1 : Sig), qv s1 → Rng s1 → Ex K G N ρ sh n lv st s1) : Ex K G N ρ sh pc lv (st0) (σ) := x_callVs n C d hn hM hj w1 w2 w3 w4 w5 hd hna hro hst h8 hlv (fun r s1 hp hr => by obtain ⟨rfl, h2⟩ := hp; exact k s1 h2 hr)
theorem x_callVsr {qr : Nat → Sig → Prop} {y : MethodName} {bytes : ByteArray} {mL fc lc ix : Nat} {rt : Option FieldType} {st0 As : List Value} {na : Nat} {j : Nat} (n : Nat) (C : Cx K G N ρ own cc nL fr lo) (d : decode cc pc = .ok (.invokevirtual ix, 3)) (hn : pc + 3 = n) (hM : MX K.2.1 y bytes mL rt fc lc G N ρ sh (.ref (G.2.2 (10 + j)) :: As) σ (PR ρ qr)) (hj : j < 2) (w1 : Cond.methodLink own ix y ∈ TB) (w2 : Cond.instanceMethod y ∈ TB) (w3 : Cond.selects "java/lang/String" y y ∈ TB) (w4 : Cond.initialized "java/lang/String" ∈ TB) (w5 : Cond.code y bytes mL rt ∈ TB) (hd : y.cls = "java/lang/String" ∧ y.cls ≠ "java/lang/invoke/MethodHandle" ∧ y.cls ≠ "java/lang/invoke/VarHandle" ∧ (parseMethodDescriptor y.desc).map (fun d => d.parameters.length) = some na) (hna : As.length = na) (hro : fc + 1 ≤ fr ∧ 8 + (mL + 11) + lc ≤ lo) (hst : st0 = As.reverse ++ .ref (G.2.2 (10 + j)) :: st) (h8 : (st.map fun v => v.category).sum ≤ 8) (hlv : lv.length = nL) (k : ∀ (z : Nat) (s1 : Sig), qr z s1 → Rng s1 → Ex K G N ρ sh n lv (.ref (ρ z) :: st) s1) : Ex K G N ρ sh pc lv (st0) (σ) := x_callVs n C d hn hM hj w1 w2 w3 w4 w5 hd hna hro hst h8 hlv (fun r s1 hp hr => by obtain ⟨z, rfl, h2⟩ := hp; exact k z s1 h2 hr)
theorem x_callVsl {q : Int → Sig → Prop} {y : MethodName} {bytes : ByteArray} {mL fc lc ix : Nat} {rt : Option FieldType} {st0 As : List Value} {na : Nat} {j : Nat} (n : Nat) (C : Cx K G N ρ own cc nL fr lo) (d : decode cc pc = .ok (.invokevirtual ix, 3)) (hn : pc + 3 = n) (hM : MX K.2.1 y bytes mL rt fc lc G N ρ sh (.ref (G.2.2 (10 + j)) :: As) σ (PL q)) (hj : j < 2) (w1 : Cond.methodLink own ix y ∈ TB) (w2 : Cond.instanceMethod y ∈ TB) (w3 : Cond.selects "java/lang/String" y y ∈ TB) (w4 : Cond.initialized "java/lang/String" ∈ TB) (w5 : Cond.code y bytes mL rt ∈ TB) (hd : y.cls = "java/lang/String" ∧ y.cls ≠ "java/lang/invoke/MethodHandle" ∧ y.cls ≠ "java/lang/invoke/VarHandle" ∧ (parseMethodDescriptor y.desc).map (fun d => d.parameters.length) = some na) (hna : As.length = na) (hro : fc + 1 ≤ fr ∧ 8 + (mL + 11) + lc ≤ lo) (hst : st0 = As.reverse ++ .ref (G.2.2 (10 + j)) :: st) (h8 : (st.map fun v => v.category).sum ≤ 8) (hlv : lv.length = nL) (k : ∀ (z : Int) (s1 : Sig), q z s1 → Rng s1 → Ex K G N ρ sh n lv (.long (lZ z) :: st) s1) : Ex K G N ρ sh pc lv (st0) (σ) := x_callVs n C d hn hM hj w1 w2 w3 w4 w5 hd hna hro hst h8 hlv (fun r s1 hp hr => by obtain ⟨z, rfl, h2⟩ := hp; exact k z s1 h2 hr)
end ROWS
set_option maxHeartbeats 4000000 in
set_option maxRecDepth 100000 in
theorem c_J0_coder_7d493 {l : Launch} {G : Gt} {ρ : Nat → Nat} {N : Nat} {sh : Nat → Shc} {σ : Sig} {j : Nat} (hj : j < 2) : MX l yJ0_coder_7d493 cJ0_coder_7d493 1 (some .byte) 0 0 G N ρ sh [.ref (G.2.2 (10 + j))] σ (PE σ 0) := by
  refine MX_of [some (.ref (G.2.2 (10 + j)))] (by decide +kernel) rfl rfl (Nat.le_of_ble_eq_true rfl) ?_
  intro K hKl C T hRng
  subst hKl
  refine x_getsC 3 C tb_1_187 dJ0_coder_7d493_0 rfl ?_
  refine x_if_eq 13 6 C dJ0_coder_7d493_3 rfl rfl (by omega) (fun h3 => ?_) (fun h3 => ?_)
  · exfalso; omega --END
  refine x_aload_n 7 C dJ0_coder_7d493_6 rfl rfl rfl ?_
  refine x_scod 10 C hj tb_6_139 dJ0_coder_7d493_7 rfl ?_
  refine x_goto 14 C dJ0_coder_7d493_10 rfl ?_
  refine x_bret C T dJ0_coder_7d493_14 (rfl) ?_
  exact PE_i rfl (by omega)

set_option maxHeartbeats 4000000 in
set_option maxRecDepth 100000 in
theorem c_J0_length_8abf5 {l : Launch} {G : Gt} {ρ : Nat → Nat} {N : Nat} {sh : Nat → Shc} {σ : Sig} {j : Nat} (hj : j < 2) : MX l yJ0_length_8abf5 cJ0_length_8abf5 1 (some .int) 1 40 G N ρ sh [.ref (G.2.2 (10 + j))] σ (PE σ (stL.getD j 0 : Int)) := by
  refine MX_of [some (.ref (G.2.2 (10 + j)))] (by decide +kernel) rfl rfl (Nat.le_of_ble_eq_true rfl) ?_
  intro K hKl C T hRng
  subst hKl
  have hl : ((stL.getD j 0 : Nat) : Int) = 38 ∨ ((stL.getD j 0 : Nat) : Int) = 58 := by
    match j, hj with
    | 0, _ => exact Or.inl rfl
    | 1, _ => exact Or.inr rfl
  refine x_aload_n 1 C dJ0_length_8abf5_0 rfl rfl rfl ?_
  refine x_sval 4 C hj tb_6_138 dJ0_length_8abf5_1 rfl ?_
  refine x_slen 5 C hj dJ0_length_8abf5_4 rfl ?_
  refine x_aload_n 6 C dJ0_length_8abf5_5 rfl rfl rfl ?_
  refine x_callVse 9 C dJ0_length_8abf5_6 rfl (c_J0_coder_7d493 hj) hj tb_1_183 tb_1_184 tb_1_185 tb_1_10 tb_1_186 (na := 0) (by decide +kernel) rfl ⟨by decide, by decide⟩ rfl (Nat.le_of_ble_eq_true rfl) rfl (fun r6 => ?_)
  refine x_ishr ((stL.getD j 0 : Int)) 10 C dJ0_length_8abf5_9 rfl (by rcases hl with h | h <;> rw [h] <;> rfl) ?_
  refine x_iret C T dJ0_length_8abf5_10 ?_
  exact PE_i rfl (by omega)

set_option maxHeartbeats 4000000 in
set_option maxRecDepth 100000 in
theorem c_J0_isLatin1_aae02 {l : Launch} {G : Gt} {ρ : Nat → Nat} {N : Nat} {sh : Nat → Shc} {σ : Sig} {j : Nat} (hj : j < 2) : MX l yJ0_isLatin1_aae02 cJ0_isLatin1_aae02 1 (some .boolean) 0 0 G N ρ sh [.ref (G.2.2 (10 + j))] σ (PE σ 1) := by
  refine MX_of [some (.ref (G.2.2 (10 + j)))] (by decide +kernel) rfl rfl (Nat.le_of_ble_eq_true rfl) ?_
  intro K hKl C T hRng
  subst hKl
  refine x_getsC 3 C tb_1_187 dJ0_isLatin1_aae02_0 rfl ?_
  refine x_if_eq 17 6 C dJ0_isLatin1_aae02_3 rfl rfl (by omega) (fun h3 => ?_) (fun h3 => ?_)
  · refine x_iconst 18 C dJ0_isLatin1_aae02_17 rfl ?_
    refine x_zret C T dJ0_isLatin1_aae02_18 (by omega) ?_
    first | (exfalso; omega) | exact PE_i rfl (by omega)
  refine x_aload_n 7 C dJ0_isLatin1_aae02_6 rfl rfl rfl ?_
  refine x_scod 10 C hj tb_6_139 dJ0_isLatin1_aae02_7 rfl ?_
  refine x_if_ne 17 13 C dJ0_isLatin1_aae02_10 rfl rfl (by omega) (fun h10 => ?_) (fun h10 => ?_)
  · refine x_iconst 18 C dJ0_isLatin1_aae02_17 rfl ?_
    refine x_zret C T dJ0_isLatin1_aae02_18 (by omega) ?_
    first | (exfalso; omega) | exact PE_i rfl (by omega)
  refine x_iconst 14 C dJ0_isLatin1_aae02_13 rfl ?_
  refine x_goto 18 C dJ0_isLatin1_aae02_14 rfl ?_
  refine x_zret C T dJ0_isLatin1_aae02_18 (by omega) ?_
  first | (exfalso; omega) | exact PE_i rfl (by omega)

set_option maxHeartbeats 4000000 in
set_option maxRecDepth 100000 in
theorem c_J3_null {l : Launch} {G : Gt} {ρ : Nat → Nat} {N : Nat} {sh : Nat → Shc} {σ : Sig} {i q : Int} (hi : 0 ≤ i ∧ i < q) (hq : q ≤ 2147483647) : MX l yJ3_checkIndex_8e157 cJ3_checkIndex_8e157 3 (some .int) 0 0 G N ρ sh [.int (iZ i), .int (iZ q), .null] σ (PE σ i) := by
  refine MX_of [some (.int (iZ i)), some (.int (iZ q)), some (.null)] (by decide +kernel) rfl rfl (Nat.le_of_ble_eq_true rfl) ?_
  intro K hKl C T hRng
  subst hKl
  refine x_iload_n 1 C dJ3_checkIndex_8e157_0 rfl rfl rfl ?_
  refine x_if_lt 9 4 C dJ3_checkIndex_8e157_1 rfl rfl (by omega) (fun h1 => ?_) (fun h1 => ?_)
  · exfalso; omega --END
  refine x_iload_n 5 C dJ3_checkIndex_8e157_4 rfl rfl rfl ?_
  refine x_iload_n 6 C dJ3_checkIndex_8e157_5 rfl rfl rfl ?_
  refine x_icmp_lt 16 9 C dJ3_checkIndex_8e157_6 rfl rfl (by omega) (by omega) (fun h6 => ?_) (fun h6 => ?_)
  · refine x_iload_n 17 C dJ3_checkIndex_8e157_16 rfl rfl rfl ?_
    refine x_iret C T dJ3_checkIndex_8e157_17 ?_
    exact PE_i rfl (by omega)
  exfalso; omega --END

set_option maxHeartbeats 4000000 in
set_option maxRecDepth 100000 in
theorem c_J3_ref {l : Launch} {G : Gt} {ρ : Nat → Nat} {N : Nat} {sh : Nat → Shc} {σ : Sig} {t : Nat} {i q : Int} (hi : 0 ≤ i ∧ i < q) (hq : q ≤ 2147483647) : MX l yJ3_checkIndex_8e157 cJ3_checkIndex_8e157 3 (some .int) 0 0 G N ρ sh [.int (iZ i), .int (iZ q), .ref t] σ (PE σ i) := by
  refine MX_of [some (.int (iZ i)), some (.int (iZ q)), some (.ref t)] (by decide +kernel) rfl rfl (Nat.le_of_ble_eq_true rfl) ?_
  intro K hKl C T hRng
  subst hKl
  refine x_iload_n 1 C dJ3_checkIndex_8e157_0 rfl rfl rfl ?_
  refine x_if_lt 9 4 C dJ3_checkIndex_8e157_1 rfl rfl (by omega) (fun h1 => ?_) (fun h1 => ?_)
  · exfalso; omega --END
  refine x_iload_n 5 C dJ3_checkIndex_8e157_4 rfl rfl rfl ?_
  refine x_iload_n 6 C dJ3_checkIndex_8e157_5 rfl rfl rfl ?_
  refine x_icmp_lt 16 9 C dJ3_checkIndex_8e157_6 rfl rfl (by omega) (by omega) (fun h6 => ?_) (fun h6 => ?_)
  · refine x_iload_n 17 C dJ3_checkIndex_8e157_16 rfl rfl rfl ?_
    refine x_iret C T dJ3_checkIndex_8e157_17 ?_
    exact PE_i rfl (by omega)
  exfalso; omega --END

set_option maxHeartbeats 4000000 in
set_option maxRecDepth 100000 in
theorem c_J0_checkIndex_df160 {l : Launch} {G : Gt} {ρ : Nat → Nat} {N : Nat} {sh : Nat → Shc} {σ : Sig} {i q : Int} (hi : 0 ≤ i ∧ i < q) (hq : q ≤ 2147483647) : MX l yJ0_checkIndex_df160 cJ0_checkIndex_df160 2 none 1 40 G N ρ sh [.int (iZ i), .int (iZ q)] σ (PV (fun σ' => σ = σ')) := by
  refine MX_of [some (.int (iZ i)), some (.int (iZ q))] (by decide +kernel) rfl rfl (Nat.le_of_ble_eq_true rfl) ?_
  intro K hKl C T hRng
  subst hKl
  refine x_iload_n 1 C dJ0_checkIndex_df160_0 rfl rfl rfl ?_
  refine x_iload_n 2 C dJ0_checkIndex_df160_1 rfl rfl rfl ?_
  refine x_getsF 5 C tb_1_203 dJ0_checkIndex_df160_2 rfl ?_ (fun t => ?_)
  · refine x_callTe 8 C dJ0_checkIndex_df160_5 rfl (c_J3_null (by omega) (by omega)) tb_1_205 tb_1_206 tb_1_12 tb_1_207 (na := 3) (by decide +kernel) rfl ⟨by decide, by decide⟩ rfl (Nat.le_of_ble_eq_true rfl) rfl (fun r5 => ?_)
    refine x_pop 9 C dJ0_checkIndex_df160_8 rfl rfl ?_
    refine x_vret C T dJ0_checkIndex_df160_9 ?_
    exact PV_i rfl
  · refine x_callTe 8 C dJ0_checkIndex_df160_5 rfl (c_J3_ref (by omega) (by omega)) tb_1_205 tb_1_206 tb_1_12 tb_1_207 (na := 3) (by decide +kernel) rfl ⟨by decide, by decide⟩ rfl (Nat.le_of_ble_eq_true rfl) rfl (fun r5 => ?_)
    refine x_pop 9 C dJ0_checkIndex_df160_8 rfl rfl ?_
    refine x_vret C T dJ0_checkIndex_df160_9 ?_
    exact PV_i rfl --END

set_option maxHeartbeats 4000000 in
set_option maxRecDepth 100000 in
theorem c_J1_charAt_3b067 {l : Launch} {G : Gt} {ρ : Nat → Nat} {N : Nat} {sh : Nat → Shc} {σ : Sig} {j : Nat} (hj : j < 2) {i : Int} (hi : 0 ≤ i ∧ i < (stL.getD j 0 : Nat)) : MX l yJ1_charAt_3b067 cJ1_charAt_3b067 2 (some .char) 2 61 G N ρ sh [.ref (G.2.2 (20 + j)), .int (iZ i)] σ (PE σ (chS j i.toNat)) := by
  refine MX_of [some (.ref (G.2.2 (20 + j))), some (.int (iZ i))] (by decide +kernel) rfl rfl (Nat.le_of_ble_eq_true rfl) ?_
  intro K hKl C T hRng
  subst hKl
  have hl : ((stL.getD j 0 : Nat) : Int) ≤ 58 := by
    match j, hj with
    | 0, _ => decide
    | 1, _ => decide
  have hc := chS_all j hj i.toNat (by omega)
  have hk := ch_ok hc.2
  refine x_iload_n 1 C dJ1_charAt_3b067_0 rfl rfl rfl ?_
  refine x_aload_n 2 C dJ1_charAt_3b067_1 rfl rfl rfl ?_
  refine x_slen 3 C hj dJ1_charAt_3b067_2 rfl ?_
  refine x_callTv 6 C dJ1_charAt_3b067_3 rfl (c_J0_checkIndex_df160 (by omega) (by omega)) tb_1_200 tb_1_201 tb_1_10 tb_1_202 (na := 2) (by decide +kernel) rfl ⟨by decide, by decide⟩ rfl (Nat.le_of_ble_eq_true rfl) rfl (fun s3 hq3 hR3 => ?_)
  subst hq3
  refine x_aload_n 7 C dJ1_charAt_3b067_6 rfl rfl rfl ?_
  refine x_iload_n 8 C dJ1_charAt_3b067_7 rfl rfl rfl ?_
  refine x_sbyt 9 C hj (by omega) (by omega) dJ1_charAt_3b067_8 rfl ?_
  refine x_sipush 12 C dJ1_charAt_3b067_9 rfl rfl ?_
  refine x_iand (chS j i.toNat) 13 C dJ1_charAt_3b067_12 rfl (hk.1) ?_
  refine x_i2c (chS j i.toNat) 14 C dJ1_charAt_3b067_13 rfl (hk.2.1) ?_
  refine x_cret C T dJ1_charAt_3b067_14 (hk.2.2) ?_
  exact PE_i rfl (by omega)

set_option maxHeartbeats 4000000 in
set_option maxRecDepth 100000 in
theorem c_J0_charAt_5068e {l : Launch} {G : Gt} {ρ : Nat → Nat} {N : Nat} {sh : Nat → Shc} {σ : Sig} {j : Nat} (hj : j < 2) {i : Int} (hi : 0 ≤ i ∧ i < (stL.getD j 0 : Nat)) : MX l yJ0_charAt_5068e cJ0_charAt_5068e 2 (some .char) 3 82 G N ρ sh [.ref (G.2.2 (10 + j)), .int (iZ i)] σ (PE σ (chS j i.toNat)) := by
  refine MX_of [some (.ref (G.2.2 (10 + j))), some (.int (iZ i))] (by decide +kernel) rfl rfl (Nat.le_of_ble_eq_true rfl) ?_
  intro K hKl C T hRng
  subst hKl
  have hl : ((stL.getD j 0 : Nat) : Int) ≤ 58 := by
    match j, hj with
    | 0, _ => decide
    | 1, _ => decide
  have hc := chS_all j hj i.toNat (by omega)
  have hk := ch_ok hc.2
  refine x_aload_n 1 C dJ0_charAt_5068e_0 rfl rfl rfl ?_
  refine x_callVse 4 C dJ0_charAt_5068e_1 rfl (c_J0_isLatin1_aae02 hj) hj tb_1_193 tb_1_194 tb_1_195 tb_1_10 tb_1_196 (na := 0) (by decide +kernel) rfl ⟨by decide, by decide⟩ rfl (Nat.le_of_ble_eq_true rfl) rfl (fun r1 => ?_)
  refine x_if_eq 16 7 C dJ0_charAt_5068e_4 rfl rfl (by omega) (fun h4 => ?_) (fun h4 => ?_)
  · exfalso; omega --END
  refine x_aload_n 8 C dJ0_charAt_5068e_7 rfl rfl rfl ?_
  refine x_sval 11 C hj tb_6_138 dJ0_charAt_5068e_8 rfl ?_
  refine x_iload_n 12 C dJ0_charAt_5068e_11 rfl rfl rfl ?_
  refine x_callTe 15 C dJ0_charAt_5068e_12 rfl (c_J1_charAt_3b067 hj (by omega)) tb_1_197 tb_1_198 tb_1_11 tb_1_199 (na := 2) (by decide +kernel) rfl ⟨by decide, by decide⟩ rfl (Nat.le_of_ble_eq_true rfl) rfl (fun r12 => ?_)
  refine x_cret C T dJ0_charAt_5068e_15 (hk.2.2) ?_
  exact PE_i rfl (by omega)
