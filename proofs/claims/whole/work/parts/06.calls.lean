/-- the world, at a state -/
def Rep (G : Gt) (N : Nat) (ρ : Nat → Nat) (sh : Nat → Shc) (σ : Sig) (U : State) : Prop := N ≤ 1000 ∧ Inj N ρ ∧ Rng σ ∧ va_P G.1 vwC (mkW G.2.1 N ρ sh σ) U.heap ∧ va_K G.1 vwC (tyA G.2.1) U ∧ RO G.2.2 (AX N ρ U.heap.size) U U.heap
def QX (G : Gt) (N : Nat) (ρ : Nat → Nat) (sh : Nat → Shc) (post : Option Value → Sig → Prop) (sz : Nat) : Array Value → State → Outcome → State → Prop := fun _ st o t => (∃ (r : Option Value) (σ' : Sig), o = .returned r ∧ post r σ' ∧ Rng σ' ∧ va_P G.1 vwC (mkW G.2.1 N ρ sh σ') t.heap) ∧ va_F (AX N ρ sz) st t
/-- a method's contract: from the world σ with these arguments it returns, with 'post' of answer and world -/
def MX (l : Launch) (y : MethodName) (cc : ByteArray) (nL : Nat) (ret : Option FieldType) (fr lo : Nat) (G : Gt) (N : Nat) (ρ : Nat → Nat) (sh : Nat → Shc) (av : List Value) (σ : Sig) (post : Option Value → Sig → Prop) : Prop :=
  ∀ sz : Nat, Met l y (Cond.code y cc nL ret :: TB) { frames := fr, cells := 0, slots := 0, locals := lo } (va_Pc av (fun U => U.heap.size = sz ∧ Rep G N ρ sh σ U)) (QX G N ρ sh post sz) 0 0 (AX N ρ sz)
/-- pure: the answer is e, the world stays -/
def PE (σ : Sig) (e : Int) : Option Value → Sig → Prop := fun r σ' => r = some (.int (iZ e)) ∧ (-2147483648 ≤ e ∧ e ≤ 2147483647) ∧ σ' = σ
def PI (q : Int → Sig → Prop) : Option Value → Sig → Prop := fun r σ' => ∃ z : Int, r = some (.int (iZ z)) ∧ (-2147483648 ≤ z ∧ z ≤ 2147483647) ∧ q z σ'
def PV (q : Sig → Prop) : Option Value → Sig → Prop := fun r σ' => r = none ∧ q σ'
def PR (ρ : Nat → Nat) (q : Nat → Sig → Prop) : Option Value → Sig → Prop := fun r σ' => ∃ k : Nat, r = some (.ref (ρ k)) ∧ q k σ'
def PL (q : Int → Sig → Prop) : Option Value → Sig → Prop := fun r σ' => ∃ z : Int, r = some (.long (lZ z)) ∧ q z σ'
/-- how a method ends -/
def Rt (K : Mk) (G : Gt) (N : Nat) (ρ : Nat → Nat) (sh : Nat → Shc) (ret : Option FieldType) (post : Option Value → Sig → Prop) : Prop := match K with
  | (_, _, _, _, s, _, args, below, meth, _, cells, slots, Q) => meth.sig.returnType = ret ∧ cells = 0 ∧ slots = 0 ∧ Q = MQ below (QX G N ρ sh post s.heap.size) args s 0 0 (AX N ρ s.heap.size)
theorem MX_of {l : Launch} {y : MethodName} {cc : ByteArray} {nL : Nat} {ret : Option FieldType} {fr lo : Nat} {G : Gt} {N : Nat} {ρ : Nat → Nat} {sh : Nat → Shc} {av : List Value} {σ : Sig} {post : Option Value → Sig → Prop} (lv : List (Option Value)) (hy : plainName y.cls = true) (hlv : lv_args 0 av = dn 0 lv) (hlen : lv.length = nL) (hle : (lg_sl av).length ≤ nL)
    (body : ∀ K : Mk, K.2.1 = l → Cx K G N ρ y.cls cc nL fr lo → Rt K G N ρ sh ret post → Rng σ → Ex K G N ρ sh 0 lv [] σ) : MX l y cc nL ret fr lo G N ρ sh av σ post := by
  intro sz
  refine Met.ofW (cc := cc) (maxL := nL) (ret := ret) hy rfl ?_
  intro p e s m args below meth c s₁ B hml hv
  obtain ⟨rfl, hsz, hN2, hI, hR, hP, hK, hO⟩ := hv
  have hts := atoms_spec (ws := Cond.code y cc nL ret :: TB) B.pre
  have hown : s.vm.findClass y.cls = some m.cls := findClass_of_methodNamed B.named
  subst hsz
  have hl := lv_entry av (n := nL) hle
  rw [lg_entry_eq]
  rw [hlv] at hl
  exact body (p, l, e, _, s, m, av.toArray, below, meth, c, 0, 0, _) rfl ⟨B.exec, B.bytes, hml, hown, fun w hw => hts w (List.mem_cons_of_mem _ hw), B.notSynchronized, hK, hI, hO, Nat.le_refl _, Nat.le_refl _, Nat.le_refl _, Nat.le_refl _, hN2⟩ ⟨B.returns, rfl, rfl, rfl⟩ hR hR s.heap [] _ hP va_S.rf (by rw [hlen]; exact hl)
theorem AX_mono {N : Nat} {ρ : Nat → Nat} {a b : Nat} (h : a ≤ b) : ∀ q, AX N ρ b q → AX N ρ a q := fun q hq => hq.imp id (fun z => Nat.le_trans h z)
theorem Rep_blind {G : Gt} {N : Nat} {ρ : Nat → Nat} {sh : Nat → Shc} {σ : Sig} {av : List Value} {sz : Nat} : FrameBlind (va_Pc av (fun U => U.heap.size = sz ∧ Rep G N ρ sh σ U)) := by
  intro a U g mk h
  obtain ⟨h1, h2, hN2, hI, hR, hP, hK, hO⟩ := h
  exact ⟨h1, h2, hN2, hI, hR, hP, va_K.moved (u := U) (U := U.calling g mk a) (Vm.Alike.refl U.vm) hK, RO_same (s := U) (U := U.calling g mk a) rfl hO⟩
theorem Rep_call {G : Gt} {N : Nat} {ρ : Nat → Nat} {sh : Nat → Shc} {σ : Sig} {s U : State} {H : Heap} {locs : List Loc} (hN2 : N ≤ 1000) (hI : Inj N ρ) (hR : Rng σ) (hP : va_P G.1 vwC (mkW G.2.1 N ρ sh σ) H) (hK : va_K G.1 vwC (tyA G.2.1) s) (hO : RO G.2.2 (AX N ρ s.heap.size) s s.heap) (hS : va_S (AX N ρ s.heap.size) s.heap H locs) (hU : U.heap = H) (hW : s.WarmedH U.vm) : Rep G N ρ sh σ U := by
  refine ⟨hN2, hI, hR, by rw [hU]; exact hP, va_K.moved hW.alike hK, ?_⟩
  rw [hU]
  exact RO_narrow (RO_kept (RO_warm hW hO) (fun a h1 h2 => hS.2.1 a h1 h2)) (AX_mono hS.1)
theorem good_all {y : MethodName} {cc : ByteArray} {nL : Nat} {ret : Option FieldType} (h : Cond.code y cc nL ret ∈ TB) : GoodIn TB (Cond.code y cc nL ret :: TB) := by
  intro w hw
  rcases List.mem_cons.mp hw with rfl | hw
  · exact ⟨h, TB_good _ h⟩
  · exact ⟨hw, TB_good _ hw⟩
theorem good_app {a b : List Cond} (ha : ∀ w ∈ a, w ∈ TB) (hb : GoodIn TB b) : GoodIn TB (a ++ b) := fun w h => (List.mem_append.mp h).elim (fun h => ⟨ha w h, TB_good w (ha w h)⟩) (hb w)
theorem good_4 {a b c d : Cond} (ha : a ∈ TB) (hb : b ∈ TB) (hc : c ∈ TB) (hd : d ∈ TB) : ∀ w ∈ [a, b, c, d], w ∈ TB := by
  intro w hw
  simp only [List.mem_cons, List.not_mem_nil, or_false] at hw
  rcases hw with rfl | rfl | rfl | rfl <;> assumption
theorem good_3 {a b c : Cond} (ha : a ∈ TB) (hb : b ∈ TB) (hc : c ∈ TB) : ∀ w ∈ [a, b, c], w ∈ TB := by
  intro w hw
  simp only [List.mem_cons, List.not_mem_nil, or_false] at hw
  rcases hw with rfl | rfl | rfl <;> assumption

section ROWS
variable {K : Mk} {G : Gt} {N : Nat} {ρ : Nat → Nat} {sh : Nat → Shc} {own : String} {cc : ByteArray} {nL fr lo : Nat} {pc n : Nat} {lv : List (Option Value)} {st : List Value} {σ : Sig}
variable {ret : Option FieldType} {post : Option Value → Sig → Prop}
theorem x_iret {z : Int} (C : Cx K G N ρ own cc nL fr lo) (T : Rt K G N ρ sh (some .int) post) (d : decode cc pc = .ok (.ireturn, 1)) (hp : post (some (.int (iZ z))) σ) : Ex K G N ρ sh pc lv ([.int (iZ z)]) (σ) := by
  obtain ⟨p, l, e, R, s, m, args, below, meth, c, cells, slots, Q⟩ := K
  obtain ⟨hx, hb, hml, hown, hts, hlk, hK, hI, hO, hfr, hlo, hce, hsl, hN2⟩ := C
  obtain ⟨hr, rfl, rfl, rfl⟩ := T
  intro hR H locs ls hP hS hl
  exact W.iret hx hb hr (fun t ht hW => ⟨⟨_, σ, rfl, hp, hR, by rw [ht]; exact hP⟩, hS.F ht⟩) hS.2.2 d hlk
theorem x_zret {z : Int} (C : Cx K G N ρ own cc nL fr lo) (T : Rt K G N ρ sh (some .boolean) post) (d : decode cc pc = .ok (.ireturn, 1)) (hz : z = 0 ∨ z = 1) (hp : post (some (.int (iZ z))) σ) : Ex K G N ρ sh pc lv ([.int (iZ z)]) (σ) := by
  obtain ⟨p, l, e, R, s, m, args, below, meth, c, cells, slots, Q⟩ := K
  obtain ⟨hx, hb, hml, hown, hts, hlk, hK, hI, hO, hfr, hlo, hce, hsl, hN2⟩ := C
  obtain ⟨hr, rfl, rfl, rfl⟩ := T
  intro hR H locs ls hP hS hl
  exact W.zret hx hb hr (by rcases hz with rfl | rfl <;> rfl) (fun t ht hW => ⟨⟨_, σ, rfl, hp, hR, by rw [ht]; exact hP⟩, hS.F ht⟩) hS.2.2 d hlk
theorem x_cret {z : Int} (C : Cx K G N ρ own cc nL fr lo) (T : Rt K G N ρ sh (some .char) post) (d : decode cc pc = .ok (.ireturn, 1)) (hz : narrow .char (.int (iZ z)) = .int (iZ z)) (hp : post (some (.int (iZ z))) σ) : Ex K G N ρ sh pc lv ([.int (iZ z)]) (σ) := by
  obtain ⟨p, l, e, R, s, m, args, below, meth, c, cells, slots, Q⟩ := K
  obtain ⟨hx, hb, hml, hown, hts, hlk, hK, hI, hO, hfr, hlo, hce, hsl, hN2⟩ := C
  obtain ⟨hr, rfl, rfl, rfl⟩ := T
  intro hR H locs ls hP hS hl
  exact W.zret hx hb hr hz (fun t ht hW => ⟨⟨_, σ, rfl, hp, hR, by rw [ht]; exact hP⟩, hS.F ht⟩) hS.2.2 d hlk
theorem x_bret {z : Int} (C : Cx K G N ρ own cc nL fr lo) (T : Rt K G N ρ sh (some .byte) post) (d : decode cc pc = .ok (.ireturn, 1)) (hz : narrow .byte (.int (iZ z)) = .int (iZ z)) (hp : post (some (.int (iZ z))) σ) : Ex K G N ρ sh pc lv ([.int (iZ z)]) (σ) := by
  obtain ⟨p, l, e, R, s, m, args, below, meth, c, cells, slots, Q⟩ := K
  obtain ⟨hx, hb, hml, hown, hts, hlk, hK, hI, hO, hfr, hlo, hce, hsl, hN2⟩ := C
  obtain ⟨hr, rfl, rfl, rfl⟩ := T
  intro hR H locs ls hP hS hl
  exact W.zret hx hb hr hz (fun t ht hW => ⟨⟨_, σ, rfl, hp, hR, by rw [ht]; exact hP⟩, hS.F ht⟩) hS.2.2 d hlk
theorem x_vret (C : Cx K G N ρ own cc nL fr lo) (T : Rt K G N ρ sh none post) (d : decode cc pc = .ok (.return_, 1)) (hp : post none σ) : Ex K G N ρ sh pc lv ([]) (σ) := by
  obtain ⟨p, l, e, R, s, m, args, below, meth, c, cells, slots, Q⟩ := K
  obtain ⟨hx, hb, hml, hown, hts, hlk, hK, hI, hO, hfr, hlo, hce, hsl, hN2⟩ := C
  obtain ⟨hr, rfl, rfl, rfl⟩ := T
  intro hR H locs ls hP hS hl
  exact W.vret hx hb hr (fun t ht hW => ⟨⟨_, σ, rfl, hp, hR, by rw [ht]; exact hP⟩, hS.F ht⟩) hS.2.2 d hlk
theorem x_lret {z : Int} (C : Cx K G N ρ own cc nL fr lo) (T : Rt K G N ρ sh (some .long) post) (d : decode cc pc = .ok (.lreturn, 1)) (hp : post (some (.long (lZ z))) σ) : Ex K G N ρ sh pc lv ([.long (lZ z)]) (σ) := by
  obtain ⟨p, l, e, R, s, m, args, below, meth, c, cells, slots, Q⟩ := K
  obtain ⟨hx, hb, hml, hown, hts, hlk, hK, hI, hO, hfr, hlo, hce, hsl, hN2⟩ := C
  obtain ⟨hr, rfl, rfl, rfl⟩ := T
  intro hR H locs ls hP hS hl
  exact W.lret hx hb hr (fun t ht hW => ⟨⟨_, σ, rfl, hp, hR, by rw [ht]; exact hP⟩, hS.F ht⟩) hS.2.2 d hlk
theorem x_callV {y : MethodName} {bytes : ByteArray} {mL fc lc ix : Nat} {rt : Option FieldType} {st0 As : List Value} {na : Nat} {ci nF lb : Nat} {fds : List Nat} {C1 : String} {T1 : u_T} (n : Nat) (C : Cx K G N ρ own cc nL fr lo) (d : decode cc pc = .ok (.invokevirtual ix, 3)) (hn : pc + 3 = n) (hM : MX K.2.1 y bytes mL rt fc lc G N ρ sh (.ref (ρ lb) :: As) σ post) (hs : sh lb = cO ci fds) (hN : lb < N) (hc : vwC[ci]? = some (C1, T1, nF)) (w1 : Cond.methodLink own ix y ∈ TB) (w2 : Cond.instanceMethod y ∈ TB) (w3 : Cond.selects C1 y y ∈ TB) (w4 : Cond.initialized C1 ∈ TB) (w5 : Cond.code y bytes mL rt ∈ TB) (hd : y.cls = C1 ∧ y.cls ≠ "java/lang/invoke/MethodHandle" ∧ y.cls ≠ "java/lang/invoke/VarHandle" ∧ (parseMethodDescriptor y.desc).map (fun d => d.parameters.length) = some na) (hna : As.length = na) (hro : fc + 1 ≤ fr ∧ 8 + (mL + 11) + lc ≤ lo) (hst : st0 = As.reverse ++ .ref (ρ lb) :: st) (h8 : (st.map fun v => v.category).sum ≤ 8) (hlv : lv.length = nL) (k : ∀ (r : Option Value) (σ1 : Sig), post r σ1 → Rng σ1 → Ex K G N ρ sh n lv (r.toList ++ st) σ1) : Ex K G N ρ sh pc lv (st0) (σ) := by
  obtain ⟨p, l, e, R, s, m, args, below, meth, c, cells, slots, Q⟩ := K
  obtain ⟨hx, hb, hml, hown, hts, hlk, hK, hI, hO, hfr, hlo, hce, hsl, hN2⟩ := C
  subst hn; subst hst; intro hR H locs ls hP hS hl
  have hrun := va_runV (e := e) (below := below) (meth := meth) (As := As) (rest := st) (H := H) (locs := locs) (g := F0 m pc ls (As.reverse ++ .ref (ρ lb) :: st)) ⟨hx, hb, hml, hown, hts⟩ (hM H.size) (cwV (R := R) na hts (good_app (good_4 w1 w2 w3 w4) (good_all w5)) rfl rfl rfl hd ⟨Nat.le_trans hro.1 hfr, Nat.le_trans hro.2 hlo⟩) ⟨Rep_blind, va_recv hK hP hc (mkW_at hN hs), fun U hU hW => ⟨rfl, by rw [hU], Rep_call hN2 hI hR hP hK hO hS hU hW⟩⟩ rfl hna (hl.1.trans hlv) rfl (lv_room h8) d ⟨hce, hsl⟩
  intro T hT X
  obtain ⟨v, st₀, t, T', L, h0, X', hL, e1, e2, ⟨⟨r, σ1, hv, hp, hR1, hP1⟩, hz, hk⟩, stp⟩ := hrun T hT X
  cases hv
  rw [h0] at hz hk
  obtain ⟨t2, a1, b1⟩ := k v σ1 hp hR1 hR1 T'.heap (locs ++ L) ls (by rw [e1]; exact hP1)
    ⟨Nat.le_trans hS.1 (by rw [e1]; exact hz), fun q h1 h2 => by rw [e1, hk q (Nat.lt_of_lt_of_le h1 hS.1) (fun z => h2 (AX_mono hS.1 q z))]; exact hS.2.1 q h1 h2, fun q hq => by
      rcases List.mem_append.mp hq with h | h
      · exact hS.2.2 q h
      · exact AX_mono hS.1 _ (hL q h)⟩ hl T' rfl X'
  exact ⟨t2, stp t2 a1, b1⟩
theorem x_callS {y : MethodName} {bytes : ByteArray} {mL fc lc ix : Nat} {rt : Option FieldType} {st0 As : List Value} {na : Nat} (n : Nat) (C : Cx K G N ρ own cc nL fr lo) (d : decode cc pc = .ok (.invokestatic ix, 3)) (hn : pc + 3 = n) (hM : MX K.2.1 y bytes mL rt fc lc G N ρ sh As σ post) (w1 : Cond.methodLink own ix y ∈ TB) (w2 : Cond.static y ∈ TB) (w4 : Cond.initialized own ∈ TB) (w5 : Cond.code y bytes mL rt ∈ TB) (hd : y.cls = own ∧ y.cls ≠ "java/lang/invoke/MethodHandle" ∧ y.cls ≠ "java/lang/invoke/VarHandle" ∧ (parseMethodDescriptor y.desc).map (fun d => d.parameters.length) = some na) (hna : As.length = na) (hro : fc + 1 ≤ fr ∧ 8 + (mL + 11) + lc ≤ lo) (hst : st0 = As.reverse ++ st) (h8 : (st.map fun v => v.category).sum ≤ 8) (hlv : lv.length = nL) (k : ∀ (r : Option Value) (σ1 : Sig), post r σ1 → Rng σ1 → Ex K G N ρ sh n lv (r.toList ++ st) σ1) : Ex K G N ρ sh pc lv (st0) (σ) := by
  obtain ⟨p, l, e, R, s, m, args, below, meth, c, cells, slots, Q⟩ := K
  obtain ⟨hx, hb, hml, hown, hts, hlk, hK, hI, hO, hfr, hlo, hce, hsl, hN2⟩ := C
  subst hn; subst hst; intro hR H locs ls hP hS hl
  have hrun := va_runS (e := e) (below := below) (meth := meth) (As := As) (rest := st) (H := H) (locs := locs) (g := F0 m pc ls (As.reverse ++ st)) ⟨hx, hb, hml, hown, hts⟩ (hM H.size) (cwS (R := R) na hts (good_app (good_3 w1 w2 w4) (good_all w5)) rfl rfl rfl hd ⟨Nat.le_trans hro.1 hfr, Nat.le_trans hro.2 hlo⟩) ⟨Rep_blind, fun U hU hW => ⟨rfl, by rw [hU], Rep_call hN2 hI hR hP hK hO hS hU hW⟩⟩ rfl hna (hl.1.trans hlv) rfl (lv_room h8) d ⟨hce, hsl⟩
  intro T hT X
  obtain ⟨v, st₀, t, T', L, h0, X', hL, e1, e2, ⟨⟨r, σ1, hv, hp, hR1, hP1⟩, hz, hk⟩, stp⟩ := hrun T hT X
  cases hv
  rw [h0] at hz hk
  obtain ⟨t2, a1, b1⟩ := k v σ1 hp hR1 hR1 T'.heap (locs ++ L) ls (by rw [e1]; exact hP1)
    ⟨Nat.le_trans hS.1 (by rw [e1]; exact hz), fun q h1 h2 => by rw [e1, hk q (Nat.lt_of_lt_of_le h1 hS.1) (fun z => h2 (AX_mono hS.1 q z))]; exact hS.2.1 q h1 h2, fun q hq => by
      rcases List.mem_append.mp hq with h | h
      · exact hS.2.2 q h
      · exact AX_mono hS.1 _ (hL q h)⟩ hl T' rfl X'
  exact ⟨t2, stp t2 a1, b1⟩
theorem x_callVe {e0 : Int} {y : MethodName} {bytes : ByteArray} {mL fc lc ix : Nat} {rt : Option FieldType} {st0 As : List Value} {na : Nat} {ci nF lb : Nat} {fds : List Nat} {C1 : String} {T1 : u_T} (n : Nat) (C : Cx K G N ρ own cc nL fr lo) (d : decode cc pc = .ok (.invokevirtual ix, 3)) (hn : pc + 3 = n) (hM : MX K.2.1 y bytes mL rt fc lc G N ρ sh (.ref (ρ lb) :: As) σ (PE σ e0)) (hs : sh lb = cO ci fds) (hN : lb < N) (hc : vwC[ci]? = some (C1, T1, nF)) (w1 : Cond.methodLink own ix y ∈ TB) (w2 : Cond.instanceMethod y ∈ TB) (w3 : Cond.selects C1 y y ∈ TB) (w4 : Cond.initialized C1 ∈ TB) (w5 : Cond.code y bytes mL rt ∈ TB) (hd : y.cls = C1 ∧ y.cls ≠ "java/lang/invoke/MethodHandle" ∧ y.cls ≠ "java/lang/invoke/VarHandle" ∧ (parseMethodDescriptor y.desc).map (fun d => d.parameters.length) = some na) (hna : As.length = na) (hro : fc + 1 ≤ fr ∧ 8 + (mL + 11) + lc ≤ lo) (hst : st0 = As.reverse ++ .ref (ρ lb) :: st) (h8 : (st.map fun v => v.category).sum ≤ 8) (hlv : lv.length = nL) (k : (-2147483648 ≤ e0 ∧ e0 ≤ 2147483647) → Ex K G N ρ sh n lv (.int (iZ e0) :: st) σ) : Ex K G N ρ sh pc lv (st0) (σ) := x_callV n C d hn hM hs hN hc w1 w2 w3 w4 w5 hd hna hro hst h8 hlv (fun r s1 hp hr => by obtain ⟨rfl, h1, rfl⟩ := hp; exact k h1)
theorem x_callVi {q : Int → Sig → Prop} {y : MethodName} {bytes : ByteArray} {mL fc lc ix : Nat} {rt : Option FieldType} {st0 As : List Value} {na : Nat} {ci nF lb : Nat} {fds : List Nat} {C1 : String} {T1 : u_T} (n : Nat) (C : Cx K G N ρ own cc nL fr lo) (d : decode cc pc = .ok (.invokevirtual ix, 3)) (hn : pc + 3 = n) (hM : MX K.2.1 y bytes mL rt fc lc G N ρ sh (.ref (ρ lb) :: As) σ (PI q)) (hs : sh lb = cO ci fds) (hN : lb < N) (hc : vwC[ci]? = some (C1, T1, nF)) (w1 : Cond.methodLink own ix y ∈ TB) (w2 : Cond.instanceMethod y ∈ TB) (w3 : Cond.selects C1 y y ∈ TB) (w4 : Cond.initialized C1 ∈ TB) (w5 : Cond.code y bytes mL rt ∈ TB) (hd : y.cls = C1 ∧ y.cls ≠ "java/lang/invoke/MethodHandle" ∧ y.cls ≠ "java/lang/invoke/VarHandle" ∧ (parseMethodDescriptor y.desc).map (fun d => d.parameters.length) = some na) (hna : As.length = na) (hro : fc + 1 ≤ fr ∧ 8 + (mL + 11) + lc ≤ lo) (hst : st0 = As.reverse ++ .ref (ρ lb) :: st) (h8 : (st.map fun v => v.category).sum ≤ 8) (hlv : lv.length = nL) (k : ∀ (z : Int) (s1 : Sig), (-2147483648 ≤ z ∧ z ≤ 2147483647) → q z s1 → Rng s1 → Ex K G N ρ sh n lv (.int (iZ z) :: st) s1) : Ex K G N ρ sh pc lv (st0) (σ) := x_callV n C d hn hM hs hN hc w1 w2 w3 w4 w5 hd hna hro hst h8 hlv (fun r s1 hp hr => by obtain ⟨z, rfl, h1, h2⟩ := hp; exact k z s1 h1 h2 hr)
theorem x_callVv {qv : Sig → Prop} {y : MethodName} {bytes : ByteArray} {mL fc lc ix : Nat} {rt : Option FieldType} {st0 As : List Value} {na : Nat} {ci nF lb : Nat} {fds : List Nat} {C1 : String} {T1 : u_T} (n : Nat) (C : Cx K G N ρ own cc nL fr lo) (d : decode cc pc = .ok (.invokevirtual ix, 3)) (hn : pc + 3 = n) (hM : MX K.2.1 y bytes mL rt fc lc G N ρ sh (.ref (ρ lb) :: As) σ (PV qv)) (hs : sh lb = cO ci fds) (hN : lb < N) (hc : vwC[ci]? = some (C1, T1, nF)) (w1 : Cond.methodLink own ix y ∈ TB) (w2 : Cond.instanceMethod y ∈ TB) (w3 : Cond.selects C1 y y ∈ TB) (w4 : Cond.initialized C1 ∈ TB) (w5 : Cond.code y bytes mL rt ∈ TB) (hd : y.cls = C1 ∧ y.cls ≠ "java/lang/invoke/MethodHandle" ∧ y.cls ≠ "java/lang/invoke/VarHandle" ∧ (parseMethodDescriptor y.desc).map (fun d => d.parameters.length) = some na) (hna : As.length = na) (hro : fc + 1 ≤ fr ∧ 8 + (mL + 11) + lc ≤ lo) (hst : st0 = As.reverse ++ .ref (ρ lb) :: st) (h8 : (st.map fun v => v.category).sum ≤ 8) (hlv : lv.length = nL) (k : ∀ (s1 : Sig), qv s1 → Rng s1 → Ex K G N ρ sh n lv st s1) : Ex K G N ρ sh pc lv (st0) (σ) := x_callV n C d hn hM hs hN hc w1 w2 w3 w4 w5 hd hna hro hst h8 hlv (fun r s1 hp hr => by obtain ⟨rfl, h2⟩ := hp; exact k s1 h2 hr)
theorem x_callVr {qr : Nat → Sig → Prop} {y : MethodName} {bytes : ByteArray} {mL fc lc ix : Nat} {rt : Option FieldType} {st0 As : List Value} {na : Nat} {ci nF lb : Nat} {fds : List Nat} {C1 : String} {T1 : u_T} (n : Nat) (C : Cx K G N ρ own cc nL fr lo) (d : decode cc pc = .ok (.invokevirtual ix, 3)) (hn : pc + 3 = n) (hM : MX K.2.1 y bytes mL rt fc lc G N ρ sh (.ref (ρ lb) :: As) σ (PR ρ qr)) (hs : sh lb = cO ci fds) (hN : lb < N) (hc : vwC[ci]? = some (C1, T1, nF)) (w1 : Cond.methodLink own ix y ∈ TB) (w2 : Cond.instanceMethod y ∈ TB) (w3 : Cond.selects C1 y y ∈ TB) (w4 : Cond.initialized C1 ∈ TB) (w5 : Cond.code y bytes mL rt ∈ TB) (hd : y.cls = C1 ∧ y.cls ≠ "java/lang/invoke/MethodHandle" ∧ y.cls ≠ "java/lang/invoke/VarHandle" ∧ (parseMethodDescriptor y.desc).map (fun d => d.parameters.length) = some na) (hna : As.length = na) (hro : fc + 1 ≤ fr ∧ 8 + (mL + 11) + lc ≤ lo) (hst : st0 = As.reverse ++ .ref (ρ lb) :: st) (h8 : (st.map fun v => v.category).sum ≤ 8) (hlv : lv.length = nL) (k : ∀ (z : Nat) (s1 : Sig), qr z s1 → Rng s1 → Ex K G N ρ sh n lv (.ref (ρ z) :: st) s1) : Ex K G N ρ sh pc lv (st0) (σ) := x_callV n C d hn hM hs hN hc w1 w2 w3 w4 w5 hd hna hro hst h8 hlv (fun r s1 hp hr => by obtain ⟨z, rfl, h2⟩ := hp; exact k z s1 h2 hr)
theorem x_callVl {q : Int → Sig → Prop} {y : MethodName} {bytes : ByteArray} {mL fc lc ix : Nat} {rt : Option FieldType} {st0 As : List Value} {na : Nat} {ci nF lb : Nat} {fds : List Nat} {C1 : String} {T1 : u_T} (n : Nat) (C : Cx K G N ρ own cc nL fr lo) (d : decode cc pc = .ok (.invokevirtual ix, 3)) (hn : pc + 3 = n) (hM : MX K.2.1 y bytes mL rt fc lc G N ρ sh (.ref (ρ lb) :: As) σ (PL q)) (hs : sh lb = cO ci fds) (hN : lb < N) (hc : vwC[ci]? = some (C1, T1, nF)) (w1 : Cond.methodLink own ix y ∈ TB) (w2 : Cond.instanceMethod y ∈ TB) (w3 : Cond.selects C1 y y ∈ TB) (w4 : Cond.initialized C1 ∈ TB) (w5 : Cond.code y bytes mL rt ∈ TB) (hd : y.cls = C1 ∧ y.cls ≠ "java/lang/invoke/MethodHandle" ∧ y.cls ≠ "java/lang/invoke/VarHandle" ∧ (parseMethodDescriptor y.desc).map (fun d => d.parameters.length) = some na) (hna : As.length = na) (hro : fc + 1 ≤ fr ∧ 8 + (mL + 11) + lc ≤ lo) (hst : st0 = As.reverse ++ .ref (ρ lb) :: st) (h8 : (st.map fun v => v.category).sum ≤ 8) (hlv : lv.length = nL) (k : ∀ (z : Int) (s1 : Sig), q z s1 → Rng s1 → Ex K G N ρ sh n lv (.long (lZ z) :: st) s1) : Ex K G N ρ sh pc lv (st0) (σ) := x_callV n C d hn hM hs hN hc w1 w2 w3 w4 w5 hd hna hro hst h8 hlv (fun r s1 hp hr => by obtain ⟨z, rfl, h2⟩ := hp; exact k z s1 h2 hr)
theorem x_callSe {e0 : Int} {y : MethodName} {bytes : ByteArray} {mL fc lc ix : Nat} {rt : Option FieldType} {st0 As : List Value} {na : Nat} (n : Nat) (C : Cx K G N ρ own cc nL fr lo) (d : decode cc pc = .ok (.invokestatic ix, 3)) (hn : pc + 3 = n) (hM : MX K.2.1 y bytes mL rt fc lc G N ρ sh As σ (PE σ e0)) (w1 : Cond.methodLink own ix y ∈ TB) (w2 : Cond.static y ∈ TB) (w4 : Cond.initialized own ∈ TB) (w5 : Cond.code y bytes mL rt ∈ TB) (hd : y.cls = own ∧ y.cls ≠ "java/lang/invoke/MethodHandle" ∧ y.cls ≠ "java/lang/invoke/VarHandle" ∧ (parseMethodDescriptor y.desc).map (fun d => d.parameters.length) = some na) (hna : As.length = na) (hro : fc + 1 ≤ fr ∧ 8 + (mL + 11) + lc ≤ lo) (hst : st0 = As.reverse ++ st) (h8 : (st.map fun v => v.category).sum ≤ 8) (hlv : lv.length = nL) (k : (-2147483648 ≤ e0 ∧ e0 ≤ 2147483647) → Ex K G N ρ sh n lv (.int (iZ e0) :: st) σ) : Ex K G N ρ sh pc lv (st0) (σ) := x_callS n C d hn hM w1 w2 w4 w5 hd hna hro hst h8 hlv (fun r s1 hp hr => by obtain ⟨rfl, h1, rfl⟩ := hp; exact k h1)
theorem x_callSi {q : Int → Sig → Prop} {y : MethodName} {bytes : ByteArray} {mL fc lc ix : Nat} {rt : Option FieldType} {st0 As : List Value} {na : Nat} (n : Nat) (C : Cx K G N ρ own cc nL fr lo) (d : decode cc pc = .ok (.invokestatic ix, 3)) (hn : pc + 3 = n) (hM : MX K.2.1 y bytes mL rt fc lc G N ρ sh As σ (PI q)) (w1 : Cond.methodLink own ix y ∈ TB) (w2 : Cond.static y ∈ TB) (w4 : Cond.initialized own ∈ TB) (w5 : Cond.code y bytes mL rt ∈ TB) (hd : y.cls = own ∧ y.cls ≠ "java/lang/invoke/MethodHandle" ∧ y.cls ≠ "java/lang/invoke/VarHandle" ∧ (parseMethodDescriptor y.desc).map (fun d => d.parameters.length) = some na) (hna : As.length = na) (hro : fc + 1 ≤ fr ∧ 8 + (mL + 11) + lc ≤ lo) (hst : st0 = As.reverse ++ st) (h8 : (st.map fun v => v.category).sum ≤ 8) (hlv : lv.length = nL) (k : ∀ (z : Int) (s1 : Sig), (-2147483648 ≤ z ∧ z ≤ 2147483647) → q z s1 → Rng s1 → Ex K G N ρ sh n lv (.int (iZ z) :: st) s1) : Ex K G N ρ sh pc lv (st0) (σ) := x_callS n C d hn hM w1 w2 w4 w5 hd hna hro hst h8 hlv (fun r s1 hp hr => by obtain ⟨z, rfl, h1, h2⟩ := hp; exact k z s1 h1 h2 hr)
theorem x_callSv {qv : Sig → Prop} {y : MethodName} {bytes : ByteArray} {mL fc lc ix : Nat} {rt : Option FieldType} {st0 As : List Value} {na : Nat} (n : Nat) (C : Cx K G N ρ own cc nL fr lo) (d : decode cc pc = .ok (.invokestatic ix, 3)) (hn : pc + 3 = n) (hM : MX K.2.1 y bytes mL rt fc lc G N ρ sh As σ (PV qv)) (w1 : Cond.methodLink own ix y ∈ TB) (w2 : Cond.static y ∈ TB) (w4 : Cond.initialized own ∈ TB) (w5 : Cond.code y bytes mL rt ∈ TB) (hd : y.cls = own ∧ y.cls ≠ "java/lang/invoke/MethodHandle" ∧ y.cls ≠ "java/lang/invoke/VarHandle" ∧ (parseMethodDescriptor y.desc).map (fun d => d.parameters.length) = some na) (hna : As.length = na) (hro : fc + 1 ≤ fr ∧ 8 + (mL + 11) + lc ≤ lo) (hst : st0 = As.reverse ++ st) (h8 : (st.map fun v => v.category).sum ≤ 8) (hlv : lv.length = nL) (k : ∀ (s1 : Sig), qv s1 → Rng s1 → Ex K G N ρ sh n lv st s1) : Ex K G N ρ sh pc lv (st0) (σ) := x_callS n C d hn hM w1 w2 w4 w5 hd hna hro hst h8 hlv (fun r s1 hp hr => by obtain ⟨rfl, h2⟩ := hp; exact k s1 h2 hr)
theorem x_callSr {qr : Nat → Sig → Prop} {y : MethodName} {bytes : ByteArray} {mL fc lc ix : Nat} {rt : Option FieldType} {st0 As : List Value} {na : Nat} (n : Nat) (C : Cx K G N ρ own cc nL fr lo) (d : decode cc pc = .ok (.invokestatic ix, 3)) (hn : pc + 3 = n) (hM : MX K.2.1 y bytes mL rt fc lc G N ρ sh As σ (PR ρ qr)) (w1 : Cond.methodLink own ix y ∈ TB) (w2 : Cond.static y ∈ TB) (w4 : Cond.initialized own ∈ TB) (w5 : Cond.code y bytes mL rt ∈ TB) (hd : y.cls = own ∧ y.cls ≠ "java/lang/invoke/MethodHandle" ∧ y.cls ≠ "java/lang/invoke/VarHandle" ∧ (parseMethodDescriptor y.desc).map (fun d => d.parameters.length) = some na) (hna : As.length = na) (hro : fc + 1 ≤ fr ∧ 8 + (mL + 11) + lc ≤ lo) (hst : st0 = As.reverse ++ st) (h8 : (st.map fun v => v.category).sum ≤ 8) (hlv : lv.length = nL) (k : ∀ (z : Nat) (s1 : Sig), qr z s1 → Rng s1 → Ex K G N ρ sh n lv (.ref (ρ z) :: st) s1) : Ex K G N ρ sh pc lv (st0) (σ) := x_callS n C d hn hM w1 w2 w4 w5 hd hna hro hst h8 hlv (fun r s1 hp hr => by obtain ⟨z, rfl, h2⟩ := hp; exact k z s1 h2 hr)
theorem x_callSl {q : Int → Sig → Prop} {y : MethodName} {bytes : ByteArray} {mL fc lc ix : Nat} {rt : Option FieldType} {st0 As : List Value} {na : Nat} (n : Nat) (C : Cx K G N ρ own cc nL fr lo) (d : decode cc pc = .ok (.invokestatic ix, 3)) (hn : pc + 3 = n) (hM : MX K.2.1 y bytes mL rt fc lc G N ρ sh As σ (PL q)) (w1 : Cond.methodLink own ix y ∈ TB) (w2 : Cond.static y ∈ TB) (w4 : Cond.initialized own ∈ TB) (w5 : Cond.code y bytes mL rt ∈ TB) (hd : y.cls = own ∧ y.cls ≠ "java/lang/invoke/MethodHandle" ∧ y.cls ≠ "java/lang/invoke/VarHandle" ∧ (parseMethodDescriptor y.desc).map (fun d => d.parameters.length) = some na) (hna : As.length = na) (hro : fc + 1 ≤ fr ∧ 8 + (mL + 11) + lc ≤ lo) (hst : st0 = As.reverse ++ st) (h8 : (st.map fun v => v.category).sum ≤ 8) (hlv : lv.length = nL) (k : ∀ (z : Int) (s1 : Sig), q z s1 → Rng s1 → Ex K G N ρ sh n lv (.long (lZ z) :: st) s1) : Ex K G N ρ sh pc lv (st0) (σ) := x_callS n C d hn hM w1 w2 w4 w5 hd hna hro hst h8 hlv (fun r s1 hp hr => by obtain ⟨z, rfl, h2⟩ := hp; exact k z s1 h2 hr)
def b2 (c : Prop) [Decidable c] : Int := if c then 1 else 0
theorem b2_t {c : Prop} [Decidable c] (h : c) : b2 c = 1 := if_pos h
theorem b2_f {c : Prop} [Decidable c] (h : ¬ c) : b2 c = 0 := if_neg h
theorem b2_in (c : Prop) [Decidable c] : -2147483648 ≤ b2 c ∧ b2 c ≤ 2147483647 := by unfold b2; split <;> omega
theorem b2_01 (c : Prop) [Decidable c] : b2 c = 0 ∨ b2 c = 1 := by unfold b2; split <;> simp
theorem x_ifb_eq {c : Prop} [Decidable c] {off : Int} (tgt : Nat) (n : Nat) (C : Cx K G N ρ own cc nL fr lo) (d : decode cc pc = .ok (.ifCond .eq off, 3)) (hn : pc + 3 = n) (ht : (pc : Int) + off = (tgt : Int)) (kt : ¬ c → Ex K G N ρ sh tgt lv (st) (σ)) (kf : c → Ex K G N ρ sh n lv (st) (σ)) : Ex K G N ρ sh pc lv (.int (iZ (b2 c)) :: st) (σ) := x_if_eq tgt n C d hn ht (b2_in c) (fun h => kt (fun hc => by rw [b2_t hc] at h; omega)) (fun h => kf (Decidable.byContradiction (fun hc => h (b2_f hc))))
theorem x_ifb_ne {c : Prop} [Decidable c] {off : Int} (tgt : Nat) (n : Nat) (C : Cx K G N ρ own cc nL fr lo) (d : decode cc pc = .ok (.ifCond .ne off, 3)) (hn : pc + 3 = n) (ht : (pc : Int) + off = (tgt : Int)) (kt : c → Ex K G N ρ sh tgt lv (st) (σ)) (kf : ¬ c → Ex K G N ρ sh n lv (st) (σ)) : Ex K G N ρ sh pc lv (.int (iZ (b2 c)) :: st) (σ) := x_if_ne tgt n C d hn ht (b2_in c) (fun h => kt (Decidable.byContradiction (fun hc => h (b2_f hc)))) (fun h => kf (fun hc => by rw [b2_t hc] at h; omega))
end ROWS
