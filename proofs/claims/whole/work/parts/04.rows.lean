/-! the machine of a method: program, launch, environment, room, state at entry, method, arguments, frames below, method's record, code, cells, slots, end -/
abbrev Mk : Type := Program × Launch × Env × Room × State × MethodId × Array Value × List Frame × Method × Code × Nat × Nat × (State → Prop)
def fMOST (j : Nat) : Value := .int (iZ (([35, 99, 9, 5, 35, 3, 23, 99] : List Int).getD j 0))
def fDOWN (j : Nat) : Value := .int (iZ (([-1, 0, 1, 0] : List Int).getD j 0))
def fACR (j : Nat) : Value := .int (iZ (([0, 1, 0, -1] : List Int).getD j 0))
def stL : List Nat := [38, 58]
def stB : List (List Int32) := [[115, 101, 101, 115, 32, 49, 32, 59, 32, 119, 111, 114, 116, 104, 32, 48, 32, 59, 32, 115, 108, 101, 101, 112, 32, 50, 51, 32, 45, 32, 109, 105, 110, 117, 116, 101, 32, 59], [102, 97, 114, 32, 109, 105, 110, 117, 116, 101, 32, 102, 111, 103, 32, 104, 105, 103, 104, 32, 111, 110, 101, 32, 116, 104, 105, 110, 103, 32, 115, 101, 101, 115, 32, 119, 111, 114, 116, 104, 32, 115, 108, 101, 101, 112, 32, 111, 114, 32, 97, 110, 100, 32, 110, 111, 116, 32]]
def NW : List Cond := [(Jvm.Cond.methodLinkNest "FirstSeen" (9 : Nat) ({ cls := "FirstSeen$Town", name := "<init>", desc := "()V" } : Jvm.MethodName) "FirstSeen"), (Jvm.Cond.methodLinkNest "FirstSeen" (21 : Nat) ({ cls := "FirstSeen$Thing", name := "<init>", desc := "()V" } : Jvm.MethodName) "FirstSeen"), (Jvm.Cond.methodLinkNest "FirstSeen" (24 : Nat) ({ cls := "FirstSeen$Walking", name := "<init>", desc := "()V" } : Jvm.MethodName) "FirstSeen"), (Jvm.Cond.methodLinkNest "FirstSeen$Walking" (3 : Nat) ({ cls := "FirstSeen$Thing", name := "<init>", desc := "()V" } : Jvm.MethodName) "FirstSeen"), (Jvm.Cond.methodLinkNest "FirstSeen" (27 : Nat) ({ cls := "FirstSeen$Picture", name := "<init>", desc := "()V" } : Jvm.MethodName) "FirstSeen"), (Jvm.Cond.methodLinkNest "FirstSeen$Picture" (1 : Nat) ({ cls := "FirstSeen$Thing", name := "<init>", desc := "()V" } : Jvm.MethodName) "FirstSeen"), (Jvm.Cond.methodLinkNest "FirstSeen" (30 : Nat) ({ cls := "FirstSeen$Bull", name := "<init>", desc := "()V" } : Jvm.MethodName) "FirstSeen"), (Jvm.Cond.methodLinkNest "FirstSeen$Bull" (1 : Nat) ({ cls := "FirstSeen$Walking", name := "<init>", desc := "()V" } : Jvm.MethodName) "FirstSeen"), (Jvm.Cond.methodLinkNest "FirstSeen" (33 : Nat) ({ cls := "FirstSeen$Framed", name := "<init>", desc := "()V" } : Jvm.MethodName) "FirstSeen"), (Jvm.Cond.methodLinkNest "FirstSeen$Framed" (1 : Nat) ({ cls := "FirstSeen$Picture", name := "<init>", desc := "()V" } : Jvm.MethodName) "FirstSeen"), (Jvm.Cond.methodLinkNest "FirstSeen" (36 : Nat) ({ cls := "FirstSeen$Hill", name := "<init>", desc := "()V" } : Jvm.MethodName) "FirstSeen"), (Jvm.Cond.methodLinkNest "FirstSeen$Hill" (3 : Nat) ({ cls := "FirstSeen$Thing", name := "<init>", desc := "()V" } : Jvm.MethodName) "FirstSeen"), (Jvm.Cond.methodLinkNest "FirstSeen" (43 : Nat) ({ cls := "FirstSeen$Reader", name := "<init>", desc := "()V" } : Jvm.MethodName) "FirstSeen"), (Jvm.Cond.castable "[I" "java/lang/Cloneable"), (Jvm.Cond.methodLinkNest "FirstSeen" (96 : Nat) ({ cls := "FirstSeen$Sheet", name := "<init>", desc := "()V" } : Jvm.MethodName) "FirstSeen"), (Jvm.Cond.methodLinkNest "FirstSeen$Town" (46 : Nat) ({ cls := "FirstSeen", name := "isWithin", desc := "(II)Z" } : Jvm.MethodName) "FirstSeen"), (Jvm.Cond.fieldLinkNest "FirstSeen$Morning" (107 : Nat) "FirstSeen" "DOWN" "[I" "FirstSeen"), (Jvm.Cond.fieldLinkNest "FirstSeen$Morning" (110 : Nat) "FirstSeen" "ACROSS" "[I" "FirstSeen"), (Jvm.Cond.methodLinkNest "FirstSeen$Morning" (113 : Nat) ({ cls := "FirstSeen", name := "isWithin", desc := "(II)Z" } : Jvm.MethodName) "FirstSeen"), (Jvm.Cond.declares ({ cls := "FirstSeen$Thing", name := "shows", desc := "(III)Z" } : Jvm.MethodName)), (Jvm.Cond.castable "FirstSeen$Bull" "FirstSeen$Walking"), (Jvm.Cond.castable "FirstSeen$Framed" "FirstSeen$Picture"), (Jvm.Cond.castable "FirstSeen$Walking" "FirstSeen$Thing"), (Jvm.Cond.castable "FirstSeen$Picture" "FirstSeen$Thing"), (Jvm.Cond.castable "FirstSeen$Bull" "FirstSeen$Thing"), (Jvm.Cond.castable "FirstSeen$Framed" "FirstSeen$Thing"), (Jvm.Cond.castable "FirstSeen$Hill" "FirstSeen$Thing")]
def NC : List (String × String) := [("FirstSeen$Thing", "FirstSeen$Walking"), ("FirstSeen$Thing", "FirstSeen$Picture"), ("FirstSeen$Thing", "FirstSeen$Bull"), ("FirstSeen$Thing", "FirstSeen$Framed"), ("FirstSeen$Thing", "FirstSeen$Hill"), ("FirstSeen$Walking", "FirstSeen$Picture"), ("FirstSeen$Walking", "FirstSeen$Bull"), ("FirstSeen$Walking", "FirstSeen$Framed"), ("FirstSeen$Walking", "FirstSeen$Hill"), ("FirstSeen$Picture", "FirstSeen$Walking"), ("FirstSeen$Picture", "FirstSeen$Bull"), ("FirstSeen$Picture", "FirstSeen$Framed"), ("FirstSeen$Picture", "FirstSeen$Hill"), ("FirstSeen$Bull", "FirstSeen$Picture"), ("FirstSeen$Bull", "FirstSeen$Framed"), ("FirstSeen$Bull", "FirstSeen$Hill"), ("FirstSeen$Framed", "FirstSeen$Walking"), ("FirstSeen$Framed", "FirstSeen$Bull"), ("FirstSeen$Framed", "FirstSeen$Hill"), ("FirstSeen$Hill", "FirstSeen$Walking"), ("FirstSeen$Hill", "FirstSeen$Picture"), ("FirstSeen$Hill", "FirstSeen$Bull"), ("FirstSeen$Hill", "FirstSeen$Framed")]
theorem nw_warm {s U : State} (hW : s.WarmedH U.vm) (h : ∀ w ∈ NW, va_Nw w s) : ∀ w ∈ NW, va_Nw w U := by
  unfold NW at h ⊢
  simp only [List.forall_mem_cons] at h ⊢
  obtain ⟨h0, h1, h2, h3, h4, h5, h6, h7, h8, h9, h10, h11, h12, h13, h14, h15, h16, h17, h18, h19, h20, h21, h22, h23, h24, h25, h26, h27⟩ := h
  exact ⟨va_Nw.warmM hW h0, va_Nw.warmM hW h1, va_Nw.warmM hW h2, va_Nw.warmM hW h3, va_Nw.warmM hW h4, va_Nw.warmM hW h5, va_Nw.warmM hW h6, va_Nw.warmM hW h7, va_Nw.warmM hW h8, va_Nw.warmM hW h9, va_Nw.warmM hW h10, va_Nw.warmM hW h11, va_Nw.warmM hW h12, va_Nw.warmC hW h13, va_Nw.warmM hW h14, va_Nw.warmM hW h15, va_Nw.warmF hW h16, va_Nw.warmF hW h17, va_Nw.warmM hW h18, va_Nw.warmD hW h19, va_Nw.warmC hW h20, va_Nw.warmC hW h21, va_Nw.warmC hW h22, va_Nw.warmC hW h23, va_Nw.warmC hW h24, va_Nw.warmC hW h25, va_Nw.warmC hW h26, fun _ h => absurd h List.not_mem_nil⟩
theorem nw_same {u U : State} (hv : u.vm = U.vm) (h : ∀ w ∈ NW, va_Nw w u) : ∀ w ∈ NW, va_Nw w U := fun w hw => va_Nw.same (by revert w; decide +kernel) hv (h w hw)

/-- what nobody changes -/
def RO (ga : Nat → Nat) (A : Nat → Prop) (U : State) (H : Heap) : Prop :=
  (va_Z "FirstSeen" "MOST" "[I" (.ref (ga 0)) A U H ∧ va_T .int (ga 0) 8 fMOST A U H) ∧ (va_Z "FirstSeen" "DOWN" "[I" (.ref (ga 1)) A U H ∧ va_T .int (ga 1) 4 fDOWN A U H) ∧ (va_Z "FirstSeen" "ACROSS" "[I" (.ref (ga 2)) A U H ∧ va_T .int (ga 2) 4 fACR A U H) ∧ va_Z "java/lang/String" "COMPACT_STRINGS" "Z" (.int 1) A U H ∧ va_Zq "jdk/internal/util/Preconditions" "SIOOBE_FORMATTER" "Ljava/util/function/BiFunction;" A U H ∧ vk_S 2 stL stB (fun i => ga (10 + i)) (fun i => ga (20 + i)) A U H ∧ (∀ w ∈ NW, va_Nw w U) ∧ vk_R "FirstSeen" 48 "sees 1 ; worth 0 ; sleep 23 - minute ;" (ga 10) U ∧ vk_R "FirstSeen$Reader" 98 "far minute fog high one thing sees worth sleep or and not " (ga 11) U ∧ (∀ q ∈ NC, va_Nc q.1 q.2 U) ∧ va_AO "FirstSeen$Thing" U ∧ va_AO "FirstSeen$Text" U ∧ va_AO "FirstSeen$Sheet" U
theorem RO_warm {ga : Nat → Nat} {A : Nat → Prop} {s U : State} {H : Heap} (hW : s.WarmedH U.vm) (h : RO ga A s H) : RO ga A U H := by
  obtain ⟨⟨a1, a2⟩, ⟨b1, b2⟩, ⟨c1, c2⟩, d, e, f, g, i, j, k, l1, l2, l3⟩ := h
  have hv := hW.alike
  exact ⟨⟨a1.moved hv, a2.moved hv⟩, ⟨b1.moved hv, b2.moved hv⟩, ⟨c1.moved hv, c2.moved hv⟩, d.moved hv, e.moved hv, f.moved hv, nw_warm hW g, i.warm hW, j.warm hW, fun q hq => (k q hq).moved hv, l1.moved hv, l2.moved hv, l3.moved hv⟩
theorem RO_same {ga : Nat → Nat} {A : Nat → Prop} {s U : State} {H : Heap} (hv : U.vm = s.vm) (h : RO ga A s H) : RO ga A U H := by
  obtain ⟨⟨a1, a2⟩, ⟨b1, b2⟩, ⟨c1, c2⟩, d, e, f, g, i, j, k, l1, l2, l3⟩ := h
  have hw : s.vm.Alike U.vm := by rw [hv]; exact Vm.Alike.refl _
  exact ⟨⟨a1.moved hw, a2.moved hw⟩, ⟨b1.moved hw, b2.moved hw⟩, ⟨c1.moved hw, c2.moved hw⟩, d.moved hw, e.moved hw, f.moved hw, nw_same hv.symm g, i.same hv, j.same hv, fun q hq => (k q hq).moved hw, l1.moved hw, l2.moved hw, l3.moved hw⟩
theorem RO_kept {ga : Nat → Nat} {A : Nat → Prop} {U : State} {H H1 : Heap} (h : RO ga A U H) (hq : ∀ a : Nat, a < H.size → ¬ A a → H1[a]? = H[a]?) : RO ga A U H1 := by
  obtain ⟨⟨a1, a2⟩, ⟨b1, b2⟩, ⟨c1, c2⟩, d, e, f, r⟩ := h
  exact ⟨⟨a1.kept hq, a2.kept hq⟩, ⟨b1.kept hq, b2.kept hq⟩, ⟨c1.kept hq, c2.kept hq⟩, d.kept hq, e.kept hq, f.kept hq, r⟩
theorem RO_narrow {ga : Nat → Nat} {A B : Nat → Prop} {U : State} {H : Heap} (h : RO ga A U H) (hq : ∀ a, B a → A a) : RO ga B U H := by
  obtain ⟨⟨a1, a2⟩, ⟨b1, b2⟩, ⟨c1, c2⟩, d, e, f, r⟩ := h
  exact ⟨⟨a1.narrow hq, a2.narrow hq⟩, ⟨b1.narrow hq, b2.narrow hq⟩, ⟨c1.narrow hq, c2.narrow hq⟩, d.narrow hq, e.narrow hq, f.narrow hq, r⟩
abbrev vwC : List vw_C := [(RX0, TX0, 0), (RX1, TX1, 0), (RX2, TX2, 0), (RX3, TX3, 14), (RX4, TX4, 0), (RX5, TX5, 8), (RX6, TX6, 3), (RX7, TX7, 4), (RX8, TX8, 0), (RX9, TX9, 13), (RX10, TX10, 0), (RX11, TX11, 12), (RX12, TX12, 56)]
abbrev tyA (dA : Nat → ClassId) : List (ClassId × FieldType) := [(dA 0, .int), (dA 1, .long), (dA 2, .boolean), (dA 3, .object "FirstSeen$Thing"), (dA 4, .object "FirstSeen$Text"), (dA 5, .object "FirstSeen$Sheet")]
/-- a method's fixed facts -/
def Cx (K : Mk) (G : Gt) (N : Nat) (ρ : Nat → Nat) (own : String) (cc : ByteArray) (nL fr lo : Nat) : Prop := match K with
  | (p, _, _, R, s, m, args, _, meth, c, cells, slots, _) => p.tables.exec = Jvm.exec ∧ c.code = cc ∧ c.maxLocals = nL ∧ s.vm.findClass own = some m.cls ∧ (∀ w ∈ TB, w.before args s = true) ∧ meth.locks = false ∧ va_K G.1 vwC (tyA G.2.1) s ∧ Inj N ρ ∧ RO G.2.2 (AX N ρ s.heap.size) s s.heap ∧ fr ≤ R.frames ∧ lo ≤ R.locals ∧ cells ≤ R.cells ∧ slots ≤ R.slots ∧ N ≤ 1000
/-- from this place, with these locals, this stack and this world, the method comes to its end -/
def Ex (K : Mk) (G : Gt) (N : Nat) (ρ : Nat → Nat) (sh : Nat → Shc) (pc : Nat) (lv : List (Option Value)) (st : List Value) (σ : Sig) : Prop := match K with
  | (p, l, e, R, s, m, args, below, meth, c, cells, slots, Q) => Rng σ → ∀ (H : Heap) (locs : List Loc) (ls : Array Slot), va_P G.1 vwC (mkW G.2.1 N ρ sh σ) H → va_S (AX N ρ s.heap.size) s.heap H locs → lv_has ls lv.length (dn 0 lv) → W p l e R s m args below meth c H locs cells slots Q (F0 m pc ls st)

section ROWS
variable {K : Mk} {G : Gt} {N : Nat} {ρ : Nat → Nat} {sh : Nat → Shc} {own : String} {cc : ByteArray} {nL fr lo : Nat} {pc n : Nat} {lv : List (Option Value)} {st : List Value} {σ : Sig}
theorem x_iconst {z : Int} (n : Nat) (C : Cx K G N ρ own cc nL fr lo) (d : decode cc pc = .ok (.iconst z, 1)) (hn : pc + 1 = n) (k : Ex K G N ρ sh n lv (.int (iZ z) :: st) (σ)) : Ex K G N ρ sh pc lv (st) (σ) := by
  obtain ⟨p, l, e, R, s, m, args, below, meth, c, cells, slots, Q⟩ := K
  obtain ⟨hx, hb, hml, hown, hts, hlk, hK, hI, hO, hfr, hlo, hce, hsl, hN2⟩ := C
  subst hn; intro hR H locs ls hP hS hl
  exact lv_iconst hx hb d rfl (k hR H locs ls hP hS hl)
theorem x_bipush {z : Int} (n : Nat) (C : Cx K G N ρ own cc nL fr lo) (d : decode cc pc = .ok (.bipush z, 2)) (hn : pc + 2 = n) (hz : (Int8.ofInt z).toInt32 = iZ z) (k : Ex K G N ρ sh n lv (.int (iZ z) :: st) (σ)) : Ex K G N ρ sh pc lv (st) (σ) := by
  obtain ⟨p, l, e, R, s, m, args, below, meth, c, cells, slots, Q⟩ := K
  obtain ⟨hx, hb, hml, hown, hts, hlk, hK, hI, hO, hfr, hlo, hce, hsl, hN2⟩ := C
  subst hn; intro hR H locs ls hP hS hl
  exact lv_bipush hx hb d hz (k hR H locs ls hP hS hl)
theorem x_sipush {z : Int} (n : Nat) (C : Cx K G N ρ own cc nL fr lo) (d : decode cc pc = .ok (.sipush z, 3)) (hn : pc + 3 = n) (hz : (Int16.ofInt z).toInt32 = iZ z) (k : Ex K G N ρ sh n lv (.int (iZ z) :: st) (σ)) : Ex K G N ρ sh pc lv (st) (σ) := by
  obtain ⟨p, l, e, R, s, m, args, below, meth, c, cells, slots, Q⟩ := K
  obtain ⟨hx, hb, hml, hown, hts, hlk, hK, hI, hO, hfr, hlo, hce, hsl, hN2⟩ := C
  subst hn; intro hR H locs ls hP hS hl
  exact lv_sipush hx hb d hz (k hR H locs ls hP hS hl)
theorem x_ldc {z : Int} {ix : Nat} (n : Nat) (C : Cx K G N ρ own cc nL fr lo) (hw : Cond.constant own ix (iZ z) ∈ TB) (d : decode cc pc = .ok (.ldc ix, 2)) (hn : pc + 2 = n) (k : Ex K G N ρ sh n lv (.int (iZ z) :: st) (σ)) : Ex K G N ρ sh pc lv (st) (σ) := by
  obtain ⟨p, l, e, R, s, m, args, below, meth, c, cells, slots, Q⟩ := K
  obtain ⟨hx, hb, hml, hown, hts, hlk, hK, hI, hO, hfr, hlo, hce, hsl, hN2⟩ := C
  subst hn; intro hR H locs ls hP hS hl
  exact lv_ldc hx hb hown (hts _ hw) d (k hR H locs ls hP hS hl)
theorem x_ldcw {z : Int} {ix : Nat} (n : Nat) (C : Cx K G N ρ own cc nL fr lo) (hw : Cond.constant own ix (iZ z) ∈ TB) (d : decode cc pc = .ok (.ldc_w ix, 3)) (hn : pc + 3 = n) (k : Ex K G N ρ sh n lv (.int (iZ z) :: st) (σ)) : Ex K G N ρ sh pc lv (st) (σ) := by
  obtain ⟨p, l, e, R, s, m, args, below, meth, c, cells, slots, Q⟩ := K
  obtain ⟨hx, hb, hml, hown, hts, hlk, hK, hI, hO, hfr, hlo, hce, hsl, hN2⟩ := C
  subst hn; intro hR H locs ls hP hS hl
  exact lv_ldcw hx hb hown (hts _ hw) d (k hR H locs ls hP hS hl)
theorem x_ldc2 {z : Int} {ix : Nat} (n : Nat) (C : Cx K G N ρ own cc nL fr lo) (hw : Cond.constantLong own ix (lZ z) ∈ TB) (d : decode cc pc = .ok (.ldc2_w ix, 3)) (hn : pc + 3 = n) (k : Ex K G N ρ sh n lv (.long (lZ z) :: st) (σ)) : Ex K G N ρ sh pc lv (st) (σ) := by
  obtain ⟨p, l, e, R, s, m, args, below, meth, c, cells, slots, Q⟩ := K
  obtain ⟨hx, hb, hml, hown, hts, hlk, hK, hI, hO, hfr, hlo, hce, hsl, hN2⟩ := C
  subst hn; intro hR H locs ls hP hS hl
  exact lv_ldc2 hx hb hown (hts _ hw) d (k hR H locs ls hP hS hl)
theorem x_lconst {q : Fin 2} (n : Nat) (C : Cx K G N ρ own cc nL fr lo) (d : decode cc pc = .ok (.lconst q, 1)) (hn : pc + 1 = n) (z : Int) (hz : Int64.ofNat (q : Nat) = lZ z) (k : Ex K G N ρ sh n lv (.long (lZ z) :: st) (σ)) : Ex K G N ρ sh pc lv (st) (σ) := by
  obtain ⟨p, l, e, R, s, m, args, below, meth, c, cells, slots, Q⟩ := K
  obtain ⟨hx, hb, hml, hown, hts, hlk, hK, hI, hO, hfr, hlo, hce, hsl, hN2⟩ := C
  subst hn; intro hR H locs ls hP hS hl
  exact lv_lconst hx hb d hz (k hR H locs ls hP hS hl)
theorem x_iload_n {q : Fin 4} {i : Nat} {x : Int32} (n : Nat) (C : Cx K G N ρ own cc nL fr lo) (d : decode cc pc = .ok (.iload_n q, 1)) (hq : (q : Nat) = i) (hi : lv[i]? = some (some (.int x))) (hn : pc + 1 = n) (k : Ex K G N ρ sh n lv (.int x :: st) (σ)) : Ex K G N ρ sh pc lv (st) (σ) := by
  obtain ⟨p, l, e, R, s, m, args, below, meth, c, cells, slots, Q⟩ := K
  obtain ⟨hx, hb, hml, hown, hts, hlk, hK, hI, hO, hfr, hlo, hce, hsl, hN2⟩ := C
  subst hn; intro hR H locs ls hP hS hl
  exact lv_iload_n hx hb d hq (dn_at hl hi) (k hR H locs ls hP hS hl)
theorem x_iload {i : Nat} {x : Int32} (n : Nat) (C : Cx K G N ρ own cc nL fr lo) (d : decode cc pc = .ok (.iload i, 2)) (hi : lv[i]? = some (some (.int x))) (hn : pc + 2 = n) (k : Ex K G N ρ sh n lv (.int x :: st) (σ)) : Ex K G N ρ sh pc lv (st) (σ) := by
  obtain ⟨p, l, e, R, s, m, args, below, meth, c, cells, slots, Q⟩ := K
  obtain ⟨hx, hb, hml, hown, hts, hlk, hK, hI, hO, hfr, hlo, hce, hsl, hN2⟩ := C
  subst hn; intro hR H locs ls hP hS hl
  exact lv_iload hx hb d (dn_at hl hi) (k hR H locs ls hP hS hl)
theorem x_aload_n {q : Fin 4} {i : Nat} {x : Nat} (n : Nat) (C : Cx K G N ρ own cc nL fr lo) (d : decode cc pc = .ok (.aload_n q, 1)) (hq : (q : Nat) = i) (hi : lv[i]? = some (some (.ref x))) (hn : pc + 1 = n) (k : Ex K G N ρ sh n lv (.ref x :: st) (σ)) : Ex K G N ρ sh pc lv (st) (σ) := by
  obtain ⟨p, l, e, R, s, m, args, below, meth, c, cells, slots, Q⟩ := K
  obtain ⟨hx, hb, hml, hown, hts, hlk, hK, hI, hO, hfr, hlo, hce, hsl, hN2⟩ := C
  subst hn; intro hR H locs ls hP hS hl
  exact lv_aload_n hx hb d hq (dn_at hl hi) (k hR H locs ls hP hS hl)
theorem x_aload {i : Nat} {x : Nat} (n : Nat) (C : Cx K G N ρ own cc nL fr lo) (d : decode cc pc = .ok (.aload i, 2)) (hi : lv[i]? = some (some (.ref x))) (hn : pc + 2 = n) (k : Ex K G N ρ sh n lv (.ref x :: st) (σ)) : Ex K G N ρ sh pc lv (st) (σ) := by
  obtain ⟨p, l, e, R, s, m, args, below, meth, c, cells, slots, Q⟩ := K
  obtain ⟨hx, hb, hml, hown, hts, hlk, hK, hI, hO, hfr, hlo, hce, hsl, hN2⟩ := C
  subst hn; intro hR H locs ls hP hS hl
  exact lv_aload hx hb d (dn_at hl hi) (k hR H locs ls hP hS hl)
theorem x_lload_n {q : Fin 4} {i : Nat} {x : Int64} (n : Nat) (C : Cx K G N ρ own cc nL fr lo) (d : decode cc pc = .ok (.lload_n q, 1)) (hq : (q : Nat) = i) (hi : lv[i]? = some (some (.long x))) (hn : pc + 1 = n) (k : Ex K G N ρ sh n lv (.long x :: st) (σ)) : Ex K G N ρ sh pc lv (st) (σ) := by
  obtain ⟨p, l, e, R, s, m, args, below, meth, c, cells, slots, Q⟩ := K
  obtain ⟨hx, hb, hml, hown, hts, hlk, hK, hI, hO, hfr, hlo, hce, hsl, hN2⟩ := C
  subst hn; intro hR H locs ls hP hS hl
  exact lv_lload_n hx hb d hq (dn_at hl hi) (k hR H locs ls hP hS hl)
theorem x_lload {i : Nat} {x : Int64} (n : Nat) (C : Cx K G N ρ own cc nL fr lo) (d : decode cc pc = .ok (.lload i, 2)) (hi : lv[i]? = some (some (.long x))) (hn : pc + 2 = n) (k : Ex K G N ρ sh n lv (.long x :: st) (σ)) : Ex K G N ρ sh pc lv (st) (σ) := by
  obtain ⟨p, l, e, R, s, m, args, below, meth, c, cells, slots, Q⟩ := K
  obtain ⟨hx, hb, hml, hown, hts, hlk, hK, hI, hO, hfr, hlo, hce, hsl, hN2⟩ := C
  subst hn; intro hR H locs ls hP hS hl
  exact lv_lload hx hb d (dn_at hl hi) (k hR H locs ls hP hS hl)
theorem x_istore_n0 {x : Int32} {z : Option Value} {t : List (Option Value)} (n : Nat) (C : Cx K G N ρ own cc nL fr lo) (d : decode cc pc = .ok (.istore_n 0, 1)) (hn : pc + 1 = n) (k : Ex K G N ρ sh n (some (.int x) :: t) (st) (σ)) : Ex K G N ρ sh pc (z :: t) (.int x :: st) (σ) := by
  obtain ⟨p, l, e, R, s, m, args, below, meth, c, cells, slots, Q⟩ := K
  obtain ⟨hx, hb, hml, hown, hts, hlk, hK, hI, hO, hfr, hlo, hce, hsl, hN2⟩ := C
  subst hn; intro hR H locs ls hP hS hl
  refine lv_istore_n hx hb d rfl hl (by simp only [List.length_cons]; omega) rfl (fun ls' hl' => k hR H locs ls' hP hS ?_)
  exact dn_set (lv := z :: t) (by simpa only [List.length_cons] using hl') rfl (fun j hj => absurd hj (by omega))
theorem x_istore_0 {x : Int32} {z : Option Value} {t : List (Option Value)} (n : Nat) (C : Cx K G N ρ own cc nL fr lo) (d : decode cc pc = .ok (.istore 0, 2)) (hn : pc + 2 = n) (k : Ex K G N ρ sh n (some (.int x) :: t) (st) (σ)) : Ex K G N ρ sh pc (z :: t) (.int x :: st) (σ) := by
  obtain ⟨p, l, e, R, s, m, args, below, meth, c, cells, slots, Q⟩ := K
  obtain ⟨hx, hb, hml, hown, hts, hlk, hK, hI, hO, hfr, hlo, hce, hsl, hN2⟩ := C
  subst hn; intro hR H locs ls hP hS hl
  refine lv_istore hx hb d hl (by simp only [List.length_cons]; omega) rfl (fun ls' hl' => k hR H locs ls' hP hS ?_)
  exact dn_set (lv := z :: t) (by simpa only [List.length_cons] using hl') rfl (fun j hj => absurd hj (by omega))
theorem x_astore_n0 {x : Nat} {z : Option Value} {t : List (Option Value)} (n : Nat) (C : Cx K G N ρ own cc nL fr lo) (d : decode cc pc = .ok (.astore_n 0, 1)) (hn : pc + 1 = n) (k : Ex K G N ρ sh n (some (.ref x) :: t) (st) (σ)) : Ex K G N ρ sh pc (z :: t) (.ref x :: st) (σ) := by
  obtain ⟨p, l, e, R, s, m, args, below, meth, c, cells, slots, Q⟩ := K
  obtain ⟨hx, hb, hml, hown, hts, hlk, hK, hI, hO, hfr, hlo, hce, hsl, hN2⟩ := C
  subst hn; intro hR H locs ls hP hS hl
  refine lv_astore_n hx hb d rfl hl (by simp only [List.length_cons]; omega) rfl (fun ls' hl' => k hR H locs ls' hP hS ?_)
  exact dn_set (lv := z :: t) (by simpa only [List.length_cons] using hl') rfl (fun j hj => absurd hj (by omega))
theorem x_astore_0 {x : Nat} {z : Option Value} {t : List (Option Value)} (n : Nat) (C : Cx K G N ρ own cc nL fr lo) (d : decode cc pc = .ok (.astore 0, 2)) (hn : pc + 2 = n) (k : Ex K G N ρ sh n (some (.ref x) :: t) (st) (σ)) : Ex K G N ρ sh pc (z :: t) (.ref x :: st) (σ) := by
  obtain ⟨p, l, e, R, s, m, args, below, meth, c, cells, slots, Q⟩ := K
  obtain ⟨hx, hb, hml, hown, hts, hlk, hK, hI, hO, hfr, hlo, hce, hsl, hN2⟩ := C
  subst hn; intro hR H locs ls hP hS hl
  refine lv_astore hx hb d hl (by simp only [List.length_cons]; omega) rfl (fun ls' hl' => k hR H locs ls' hP hS ?_)
  exact dn_set (lv := z :: t) (by simpa only [List.length_cons] using hl') rfl (fun j hj => absurd hj (by omega))
theorem x_iinc_0 {x w : Int} {t : List (Option Value)} (n : Nat) (C : Cx K G N ρ own cc nL fr lo) (d : decode cc pc = .ok (.iinc 0 w, 3)) (hn : pc + 3 = n) (k : Ex K G N ρ sh n (some (.int (iZ (x + w))) :: t) (st) (σ)) : Ex K G N ρ sh pc (some (.int (iZ x)) :: t) (st) (σ) := by
  obtain ⟨p, l, e, R, s, m, args, below, meth, c, cells, slots, Q⟩ := K
  obtain ⟨hx, hb, hml, hown, hts, hlk, hK, hI, hO, hfr, hlo, hce, hsl, hN2⟩ := C
  subst hn; intro hR H locs ls hP hS hl
  have hm := (dn_mem (some (.int (iZ x)) :: t) 0 0 (.int (iZ x))).mpr ⟨0, by omega, rfl⟩
  obtain ⟨i, hi⟩ := List.getElem?_of_mem hm
  refine lv_iinc hx hb d hl hi (iZ_add x w) (by simp only [List.length_cons]; omega) rfl (fun ls' hl' => k hR H locs ls' hP hS ?_)
  exact dn_set (lv := some (.int (iZ x)) :: t) (by simpa only [List.length_cons] using hl') rfl (fun j hj => absurd hj (by omega))
theorem x_istore_n1 {x : Int32} {a0 z : Option Value} {t : List (Option Value)} (n : Nat) (C : Cx K G N ρ own cc nL fr lo) (d : decode cc pc = .ok (.istore_n 1, 1)) (hn : pc + 1 = n) (hp : np a0 = true) (k : Ex K G N ρ sh n (a0 :: some (.int x) :: t) (st) (σ)) : Ex K G N ρ sh pc (a0 :: z :: t) (.int x :: st) (σ) := by
  obtain ⟨p, l, e, R, s, m, args, below, meth, c, cells, slots, Q⟩ := K
  obtain ⟨hx, hb, hml, hown, hts, hlk, hK, hI, hO, hfr, hlo, hce, hsl, hN2⟩ := C
  subst hn; intro hR H locs ls hP hS hl
  refine lv_istore_n hx hb d rfl hl (by simp only [List.length_cons]; omega) rfl (fun ls' hl' => k hR H locs ls' hP hS ?_)
  exact dn_set (lv := a0 :: z :: t) (by simpa only [List.length_cons] using hl') rfl (fun j hj => ⟨a0, (by cases (show j = 0 by omega); rfl), hp⟩)
theorem x_istore_1 {x : Int32} {a0 z : Option Value} {t : List (Option Value)} (n : Nat) (C : Cx K G N ρ own cc nL fr lo) (d : decode cc pc = .ok (.istore 1, 2)) (hn : pc + 2 = n) (hp : np a0 = true) (k : Ex K G N ρ sh n (a0 :: some (.int x) :: t) (st) (σ)) : Ex K G N ρ sh pc (a0 :: z :: t) (.int x :: st) (σ) := by
  obtain ⟨p, l, e, R, s, m, args, below, meth, c, cells, slots, Q⟩ := K
  obtain ⟨hx, hb, hml, hown, hts, hlk, hK, hI, hO, hfr, hlo, hce, hsl, hN2⟩ := C
  subst hn; intro hR H locs ls hP hS hl
  refine lv_istore hx hb d hl (by simp only [List.length_cons]; omega) rfl (fun ls' hl' => k hR H locs ls' hP hS ?_)
  exact dn_set (lv := a0 :: z :: t) (by simpa only [List.length_cons] using hl') rfl (fun j hj => ⟨a0, (by cases (show j = 0 by omega); rfl), hp⟩)
theorem x_astore_n1 {x : Nat} {a0 z : Option Value} {t : List (Option Value)} (n : Nat) (C : Cx K G N ρ own cc nL fr lo) (d : decode cc pc = .ok (.astore_n 1, 1)) (hn : pc + 1 = n) (hp : np a0 = true) (k : Ex K G N ρ sh n (a0 :: some (.ref x) :: t) (st) (σ)) : Ex K G N ρ sh pc (a0 :: z :: t) (.ref x :: st) (σ) := by
  obtain ⟨p, l, e, R, s, m, args, below, meth, c, cells, slots, Q⟩ := K
  obtain ⟨hx, hb, hml, hown, hts, hlk, hK, hI, hO, hfr, hlo, hce, hsl, hN2⟩ := C
  subst hn; intro hR H locs ls hP hS hl
  refine lv_astore_n hx hb d rfl hl (by simp only [List.length_cons]; omega) rfl (fun ls' hl' => k hR H locs ls' hP hS ?_)
  exact dn_set (lv := a0 :: z :: t) (by simpa only [List.length_cons] using hl') rfl (fun j hj => ⟨a0, (by cases (show j = 0 by omega); rfl), hp⟩)
theorem x_astore_1 {x : Nat} {a0 z : Option Value} {t : List (Option Value)} (n : Nat) (C : Cx K G N ρ own cc nL fr lo) (d : decode cc pc = .ok (.astore 1, 2)) (hn : pc + 2 = n) (hp : np a0 = true) (k : Ex K G N ρ sh n (a0 :: some (.ref x) :: t) (st) (σ)) : Ex K G N ρ sh pc (a0 :: z :: t) (.ref x :: st) (σ) := by
  obtain ⟨p, l, e, R, s, m, args, below, meth, c, cells, slots, Q⟩ := K
  obtain ⟨hx, hb, hml, hown, hts, hlk, hK, hI, hO, hfr, hlo, hce, hsl, hN2⟩ := C
  subst hn; intro hR H locs ls hP hS hl
  refine lv_astore hx hb d hl (by simp only [List.length_cons]; omega) rfl (fun ls' hl' => k hR H locs ls' hP hS ?_)
  exact dn_set (lv := a0 :: z :: t) (by simpa only [List.length_cons] using hl') rfl (fun j hj => ⟨a0, (by cases (show j = 0 by omega); rfl), hp⟩)
theorem x_iinc_1 {x w : Int} {a0 : Option Value} {t : List (Option Value)} (n : Nat) (C : Cx K G N ρ own cc nL fr lo) (d : decode cc pc = .ok (.iinc 1 w, 3)) (hn : pc + 3 = n) (hp : np a0 = true) (k : Ex K G N ρ sh n (a0 :: some (.int (iZ (x + w))) :: t) (st) (σ)) : Ex K G N ρ sh pc (a0 :: some (.int (iZ x)) :: t) (st) (σ) := by
  obtain ⟨p, l, e, R, s, m, args, below, meth, c, cells, slots, Q⟩ := K
  obtain ⟨hx, hb, hml, hown, hts, hlk, hK, hI, hO, hfr, hlo, hce, hsl, hN2⟩ := C
  subst hn; intro hR H locs ls hP hS hl
  have hm := (dn_mem (a0 :: some (.int (iZ x)) :: t) 0 1 (.int (iZ x))).mpr ⟨1, by omega, rfl⟩
  obtain ⟨i, hi⟩ := List.getElem?_of_mem hm
  refine lv_iinc hx hb d hl hi (iZ_add x w) (by simp only [List.length_cons]; omega) rfl (fun ls' hl' => k hR H locs ls' hP hS ?_)
  exact dn_set (lv := a0 :: some (.int (iZ x)) :: t) (by simpa only [List.length_cons] using hl') rfl (fun j hj => ⟨a0, (by cases (show j = 0 by omega); rfl), hp⟩)
theorem x_istore_n2 {x : Int32} {a0 a1 z : Option Value} {t : List (Option Value)} (n : Nat) (C : Cx K G N ρ own cc nL fr lo) (d : decode cc pc = .ok (.istore_n 2, 1)) (hn : pc + 1 = n) (hp : np a1 = true) (k : Ex K G N ρ sh n (a0 :: a1 :: some (.int x) :: t) (st) (σ)) : Ex K G N ρ sh pc (a0 :: a1 :: z :: t) (.int x :: st) (σ) := by
  obtain ⟨p, l, e, R, s, m, args, below, meth, c, cells, slots, Q⟩ := K
  obtain ⟨hx, hb, hml, hown, hts, hlk, hK, hI, hO, hfr, hlo, hce, hsl, hN2⟩ := C
  subst hn; intro hR H locs ls hP hS hl
  refine lv_istore_n hx hb d rfl hl (by simp only [List.length_cons]; omega) rfl (fun ls' hl' => k hR H locs ls' hP hS ?_)
  exact dn_set (lv := a0 :: a1 :: z :: t) (by simpa only [List.length_cons] using hl') rfl (fun j hj => ⟨a1, (by cases (show j = 1 by omega); rfl), hp⟩)
theorem x_istore_2 {x : Int32} {a0 a1 z : Option Value} {t : List (Option Value)} (n : Nat) (C : Cx K G N ρ own cc nL fr lo) (d : decode cc pc = .ok (.istore 2, 2)) (hn : pc + 2 = n) (hp : np a1 = true) (k : Ex K G N ρ sh n (a0 :: a1 :: some (.int x) :: t) (st) (σ)) : Ex K G N ρ sh pc (a0 :: a1 :: z :: t) (.int x :: st) (σ) := by
  obtain ⟨p, l, e, R, s, m, args, below, meth, c, cells, slots, Q⟩ := K
  obtain ⟨hx, hb, hml, hown, hts, hlk, hK, hI, hO, hfr, hlo, hce, hsl, hN2⟩ := C
  subst hn; intro hR H locs ls hP hS hl
  refine lv_istore hx hb d hl (by simp only [List.length_cons]; omega) rfl (fun ls' hl' => k hR H locs ls' hP hS ?_)
  exact dn_set (lv := a0 :: a1 :: z :: t) (by simpa only [List.length_cons] using hl') rfl (fun j hj => ⟨a1, (by cases (show j = 1 by omega); rfl), hp⟩)
theorem x_astore_n2 {x : Nat} {a0 a1 z : Option Value} {t : List (Option Value)} (n : Nat) (C : Cx K G N ρ own cc nL fr lo) (d : decode cc pc = .ok (.astore_n 2, 1)) (hn : pc + 1 = n) (hp : np a1 = true) (k : Ex K G N ρ sh n (a0 :: a1 :: some (.ref x) :: t) (st) (σ)) : Ex K G N ρ sh pc (a0 :: a1 :: z :: t) (.ref x :: st) (σ) := by
  obtain ⟨p, l, e, R, s, m, args, below, meth, c, cells, slots, Q⟩ := K
  obtain ⟨hx, hb, hml, hown, hts, hlk, hK, hI, hO, hfr, hlo, hce, hsl, hN2⟩ := C
  subst hn; intro hR H locs ls hP hS hl
  refine lv_astore_n hx hb d rfl hl (by simp only [List.length_cons]; omega) rfl (fun ls' hl' => k hR H locs ls' hP hS ?_)
  exact dn_set (lv := a0 :: a1 :: z :: t) (by simpa only [List.length_cons] using hl') rfl (fun j hj => ⟨a1, (by cases (show j = 1 by omega); rfl), hp⟩)
theorem x_astore_2 {x : Nat} {a0 a1 z : Option Value} {t : List (Option Value)} (n : Nat) (C : Cx K G N ρ own cc nL fr lo) (d : decode cc pc = .ok (.astore 2, 2)) (hn : pc + 2 = n) (hp : np a1 = true) (k : Ex K G N ρ sh n (a0 :: a1 :: some (.ref x) :: t) (st) (σ)) : Ex K G N ρ sh pc (a0 :: a1 :: z :: t) (.ref x :: st) (σ) := by
  obtain ⟨p, l, e, R, s, m, args, below, meth, c, cells, slots, Q⟩ := K
  obtain ⟨hx, hb, hml, hown, hts, hlk, hK, hI, hO, hfr, hlo, hce, hsl, hN2⟩ := C
  subst hn; intro hR H locs ls hP hS hl
  refine lv_astore hx hb d hl (by simp only [List.length_cons]; omega) rfl (fun ls' hl' => k hR H locs ls' hP hS ?_)
  exact dn_set (lv := a0 :: a1 :: z :: t) (by simpa only [List.length_cons] using hl') rfl (fun j hj => ⟨a1, (by cases (show j = 1 by omega); rfl), hp⟩)
theorem x_iinc_2 {x w : Int} {a0 a1 : Option Value} {t : List (Option Value)} (n : Nat) (C : Cx K G N ρ own cc nL fr lo) (d : decode cc pc = .ok (.iinc 2 w, 3)) (hn : pc + 3 = n) (hp : np a1 = true) (k : Ex K G N ρ sh n (a0 :: a1 :: some (.int (iZ (x + w))) :: t) (st) (σ)) : Ex K G N ρ sh pc (a0 :: a1 :: some (.int (iZ x)) :: t) (st) (σ) := by
  obtain ⟨p, l, e, R, s, m, args, below, meth, c, cells, slots, Q⟩ := K
  obtain ⟨hx, hb, hml, hown, hts, hlk, hK, hI, hO, hfr, hlo, hce, hsl, hN2⟩ := C
  subst hn; intro hR H locs ls hP hS hl
  have hm := (dn_mem (a0 :: a1 :: some (.int (iZ x)) :: t) 0 2 (.int (iZ x))).mpr ⟨2, by omega, rfl⟩
  obtain ⟨i, hi⟩ := List.getElem?_of_mem hm
  refine lv_iinc hx hb d hl hi (iZ_add x w) (by simp only [List.length_cons]; omega) rfl (fun ls' hl' => k hR H locs ls' hP hS ?_)
  exact dn_set (lv := a0 :: a1 :: some (.int (iZ x)) :: t) (by simpa only [List.length_cons] using hl') rfl (fun j hj => ⟨a1, (by cases (show j = 1 by omega); rfl), hp⟩)
theorem x_istore_n3 {x : Int32} {a0 a1 a2 z : Option Value} {t : List (Option Value)} (n : Nat) (C : Cx K G N ρ own cc nL fr lo) (d : decode cc pc = .ok (.istore_n 3, 1)) (hn : pc + 1 = n) (hp : np a2 = true) (k : Ex K G N ρ sh n (a0 :: a1 :: a2 :: some (.int x) :: t) (st) (σ)) : Ex K G N ρ sh pc (a0 :: a1 :: a2 :: z :: t) (.int x :: st) (σ) := by
  obtain ⟨p, l, e, R, s, m, args, below, meth, c, cells, slots, Q⟩ := K
  obtain ⟨hx, hb, hml, hown, hts, hlk, hK, hI, hO, hfr, hlo, hce, hsl, hN2⟩ := C
  subst hn; intro hR H locs ls hP hS hl
  refine lv_istore_n hx hb d rfl hl (by simp only [List.length_cons]; omega) rfl (fun ls' hl' => k hR H locs ls' hP hS ?_)
  exact dn_set (lv := a0 :: a1 :: a2 :: z :: t) (by simpa only [List.length_cons] using hl') rfl (fun j hj => ⟨a2, (by cases (show j = 2 by omega); rfl), hp⟩)
theorem x_istore_3 {x : Int32} {a0 a1 a2 z : Option Value} {t : List (Option Value)} (n : Nat) (C : Cx K G N ρ own cc nL fr lo) (d : decode cc pc = .ok (.istore 3, 2)) (hn : pc + 2 = n) (hp : np a2 = true) (k : Ex K G N ρ sh n (a0 :: a1 :: a2 :: some (.int x) :: t) (st) (σ)) : Ex K G N ρ sh pc (a0 :: a1 :: a2 :: z :: t) (.int x :: st) (σ) := by
  obtain ⟨p, l, e, R, s, m, args, below, meth, c, cells, slots, Q⟩ := K
  obtain ⟨hx, hb, hml, hown, hts, hlk, hK, hI, hO, hfr, hlo, hce, hsl, hN2⟩ := C
  subst hn; intro hR H locs ls hP hS hl
  refine lv_istore hx hb d hl (by simp only [List.length_cons]; omega) rfl (fun ls' hl' => k hR H locs ls' hP hS ?_)
  exact dn_set (lv := a0 :: a1 :: a2 :: z :: t) (by simpa only [List.length_cons] using hl') rfl (fun j hj => ⟨a2, (by cases (show j = 2 by omega); rfl), hp⟩)
theorem x_astore_n3 {x : Nat} {a0 a1 a2 z : Option Value} {t : List (Option Value)} (n : Nat) (C : Cx K G N ρ own cc nL fr lo) (d : decode cc pc = .ok (.astore_n 3, 1)) (hn : pc + 1 = n) (hp : np a2 = true) (k : Ex K G N ρ sh n (a0 :: a1 :: a2 :: some (.ref x) :: t) (st) (σ)) : Ex K G N ρ sh pc (a0 :: a1 :: a2 :: z :: t) (.ref x :: st) (σ) := by
  obtain ⟨p, l, e, R, s, m, args, below, meth, c, cells, slots, Q⟩ := K
  obtain ⟨hx, hb, hml, hown, hts, hlk, hK, hI, hO, hfr, hlo, hce, hsl, hN2⟩ := C
  subst hn; intro hR H locs ls hP hS hl
  refine lv_astore_n hx hb d rfl hl (by simp only [List.length_cons]; omega) rfl (fun ls' hl' => k hR H locs ls' hP hS ?_)
  exact dn_set (lv := a0 :: a1 :: a2 :: z :: t) (by simpa only [List.length_cons] using hl') rfl (fun j hj => ⟨a2, (by cases (show j = 2 by omega); rfl), hp⟩)
theorem x_astore_3 {x : Nat} {a0 a1 a2 z : Option Value} {t : List (Option Value)} (n : Nat) (C : Cx K G N ρ own cc nL fr lo) (d : decode cc pc = .ok (.astore 3, 2)) (hn : pc + 2 = n) (hp : np a2 = true) (k : Ex K G N ρ sh n (a0 :: a1 :: a2 :: some (.ref x) :: t) (st) (σ)) : Ex K G N ρ sh pc (a0 :: a1 :: a2 :: z :: t) (.ref x :: st) (σ) := by
  obtain ⟨p, l, e, R, s, m, args, below, meth, c, cells, slots, Q⟩ := K
  obtain ⟨hx, hb, hml, hown, hts, hlk, hK, hI, hO, hfr, hlo, hce, hsl, hN2⟩ := C
  subst hn; intro hR H locs ls hP hS hl
  refine lv_astore hx hb d hl (by simp only [List.length_cons]; omega) rfl (fun ls' hl' => k hR H locs ls' hP hS ?_)
  exact dn_set (lv := a0 :: a1 :: a2 :: z :: t) (by simpa only [List.length_cons] using hl') rfl (fun j hj => ⟨a2, (by cases (show j = 2 by omega); rfl), hp⟩)
theorem x_iinc_3 {x w : Int} {a0 a1 a2 : Option Value} {t : List (Option Value)} (n : Nat) (C : Cx K G N ρ own cc nL fr lo) (d : decode cc pc = .ok (.iinc 3 w, 3)) (hn : pc + 3 = n) (hp : np a2 = true) (k : Ex K G N ρ sh n (a0 :: a1 :: a2 :: some (.int (iZ (x + w))) :: t) (st) (σ)) : Ex K G N ρ sh pc (a0 :: a1 :: a2 :: some (.int (iZ x)) :: t) (st) (σ) := by
  obtain ⟨p, l, e, R, s, m, args, below, meth, c, cells, slots, Q⟩ := K
  obtain ⟨hx, hb, hml, hown, hts, hlk, hK, hI, hO, hfr, hlo, hce, hsl, hN2⟩ := C
  subst hn; intro hR H locs ls hP hS hl
  have hm := (dn_mem (a0 :: a1 :: a2 :: some (.int (iZ x)) :: t) 0 3 (.int (iZ x))).mpr ⟨3, by omega, rfl⟩
  obtain ⟨i, hi⟩ := List.getElem?_of_mem hm
  refine lv_iinc hx hb d hl hi (iZ_add x w) (by simp only [List.length_cons]; omega) rfl (fun ls' hl' => k hR H locs ls' hP hS ?_)
  exact dn_set (lv := a0 :: a1 :: a2 :: some (.int (iZ x)) :: t) (by simpa only [List.length_cons] using hl') rfl (fun j hj => ⟨a2, (by cases (show j = 2 by omega); rfl), hp⟩)
theorem x_istore_4 {x : Int32} {a0 a1 a2 a3 z : Option Value} {t : List (Option Value)} (n : Nat) (C : Cx K G N ρ own cc nL fr lo) (d : decode cc pc = .ok (.istore 4, 2)) (hn : pc + 2 = n) (hp : np a3 = true) (k : Ex K G N ρ sh n (a0 :: a1 :: a2 :: a3 :: some (.int x) :: t) (st) (σ)) : Ex K G N ρ sh pc (a0 :: a1 :: a2 :: a3 :: z :: t) (.int x :: st) (σ) := by
  obtain ⟨p, l, e, R, s, m, args, below, meth, c, cells, slots, Q⟩ := K
  obtain ⟨hx, hb, hml, hown, hts, hlk, hK, hI, hO, hfr, hlo, hce, hsl, hN2⟩ := C
  subst hn; intro hR H locs ls hP hS hl
  refine lv_istore hx hb d hl (by simp only [List.length_cons]; omega) rfl (fun ls' hl' => k hR H locs ls' hP hS ?_)
  exact dn_set (lv := a0 :: a1 :: a2 :: a3 :: z :: t) (by simpa only [List.length_cons] using hl') rfl (fun j hj => ⟨a3, (by cases (show j = 3 by omega); rfl), hp⟩)
theorem x_astore_4 {x : Nat} {a0 a1 a2 a3 z : Option Value} {t : List (Option Value)} (n : Nat) (C : Cx K G N ρ own cc nL fr lo) (d : decode cc pc = .ok (.astore 4, 2)) (hn : pc + 2 = n) (hp : np a3 = true) (k : Ex K G N ρ sh n (a0 :: a1 :: a2 :: a3 :: some (.ref x) :: t) (st) (σ)) : Ex K G N ρ sh pc (a0 :: a1 :: a2 :: a3 :: z :: t) (.ref x :: st) (σ) := by
  obtain ⟨p, l, e, R, s, m, args, below, meth, c, cells, slots, Q⟩ := K
  obtain ⟨hx, hb, hml, hown, hts, hlk, hK, hI, hO, hfr, hlo, hce, hsl, hN2⟩ := C
  subst hn; intro hR H locs ls hP hS hl
  refine lv_astore hx hb d hl (by simp only [List.length_cons]; omega) rfl (fun ls' hl' => k hR H locs ls' hP hS ?_)
  exact dn_set (lv := a0 :: a1 :: a2 :: a3 :: z :: t) (by simpa only [List.length_cons] using hl') rfl (fun j hj => ⟨a3, (by cases (show j = 3 by omega); rfl), hp⟩)
theorem x_iinc_4 {x w : Int} {a0 a1 a2 a3 : Option Value} {t : List (Option Value)} (n : Nat) (C : Cx K G N ρ own cc nL fr lo) (d : decode cc pc = .ok (.iinc 4 w, 3)) (hn : pc + 3 = n) (hp : np a3 = true) (k : Ex K G N ρ sh n (a0 :: a1 :: a2 :: a3 :: some (.int (iZ (x + w))) :: t) (st) (σ)) : Ex K G N ρ sh pc (a0 :: a1 :: a2 :: a3 :: some (.int (iZ x)) :: t) (st) (σ) := by
  obtain ⟨p, l, e, R, s, m, args, below, meth, c, cells, slots, Q⟩ := K
  obtain ⟨hx, hb, hml, hown, hts, hlk, hK, hI, hO, hfr, hlo, hce, hsl, hN2⟩ := C
  subst hn; intro hR H locs ls hP hS hl
  have hm := (dn_mem (a0 :: a1 :: a2 :: a3 :: some (.int (iZ x)) :: t) 0 4 (.int (iZ x))).mpr ⟨4, by omega, rfl⟩
  obtain ⟨i, hi⟩ := List.getElem?_of_mem hm
  refine lv_iinc hx hb d hl hi (iZ_add x w) (by simp only [List.length_cons]; omega) rfl (fun ls' hl' => k hR H locs ls' hP hS ?_)
  exact dn_set (lv := a0 :: a1 :: a2 :: a3 :: some (.int (iZ x)) :: t) (by simpa only [List.length_cons] using hl') rfl (fun j hj => ⟨a3, (by cases (show j = 3 by omega); rfl), hp⟩)
theorem x_istore_5 {x : Int32} {a0 a1 a2 a3 a4 z : Option Value} {t : List (Option Value)} (n : Nat) (C : Cx K G N ρ own cc nL fr lo) (d : decode cc pc = .ok (.istore 5, 2)) (hn : pc + 2 = n) (hp : np a4 = true) (k : Ex K G N ρ sh n (a0 :: a1 :: a2 :: a3 :: a4 :: some (.int x) :: t) (st) (σ)) : Ex K G N ρ sh pc (a0 :: a1 :: a2 :: a3 :: a4 :: z :: t) (.int x :: st) (σ) := by
  obtain ⟨p, l, e, R, s, m, args, below, meth, c, cells, slots, Q⟩ := K
  obtain ⟨hx, hb, hml, hown, hts, hlk, hK, hI, hO, hfr, hlo, hce, hsl, hN2⟩ := C
  subst hn; intro hR H locs ls hP hS hl
  refine lv_istore hx hb d hl (by simp only [List.length_cons]; omega) rfl (fun ls' hl' => k hR H locs ls' hP hS ?_)
  exact dn_set (lv := a0 :: a1 :: a2 :: a3 :: a4 :: z :: t) (by simpa only [List.length_cons] using hl') rfl (fun j hj => ⟨a4, (by cases (show j = 4 by omega); rfl), hp⟩)
theorem x_astore_5 {x : Nat} {a0 a1 a2 a3 a4 z : Option Value} {t : List (Option Value)} (n : Nat) (C : Cx K G N ρ own cc nL fr lo) (d : decode cc pc = .ok (.astore 5, 2)) (hn : pc + 2 = n) (hp : np a4 = true) (k : Ex K G N ρ sh n (a0 :: a1 :: a2 :: a3 :: a4 :: some (.ref x) :: t) (st) (σ)) : Ex K G N ρ sh pc (a0 :: a1 :: a2 :: a3 :: a4 :: z :: t) (.ref x :: st) (σ) := by
  obtain ⟨p, l, e, R, s, m, args, below, meth, c, cells, slots, Q⟩ := K
  obtain ⟨hx, hb, hml, hown, hts, hlk, hK, hI, hO, hfr, hlo, hce, hsl, hN2⟩ := C
  subst hn; intro hR H locs ls hP hS hl
  refine lv_astore hx hb d hl (by simp only [List.length_cons]; omega) rfl (fun ls' hl' => k hR H locs ls' hP hS ?_)
  exact dn_set (lv := a0 :: a1 :: a2 :: a3 :: a4 :: z :: t) (by simpa only [List.length_cons] using hl') rfl (fun j hj => ⟨a4, (by cases (show j = 4 by omega); rfl), hp⟩)
theorem x_iinc_5 {x w : Int} {a0 a1 a2 a3 a4 : Option Value} {t : List (Option Value)} (n : Nat) (C : Cx K G N ρ own cc nL fr lo) (d : decode cc pc = .ok (.iinc 5 w, 3)) (hn : pc + 3 = n) (hp : np a4 = true) (k : Ex K G N ρ sh n (a0 :: a1 :: a2 :: a3 :: a4 :: some (.int (iZ (x + w))) :: t) (st) (σ)) : Ex K G N ρ sh pc (a0 :: a1 :: a2 :: a3 :: a4 :: some (.int (iZ x)) :: t) (st) (σ) := by
  obtain ⟨p, l, e, R, s, m, args, below, meth, c, cells, slots, Q⟩ := K
  obtain ⟨hx, hb, hml, hown, hts, hlk, hK, hI, hO, hfr, hlo, hce, hsl, hN2⟩ := C
  subst hn; intro hR H locs ls hP hS hl
  have hm := (dn_mem (a0 :: a1 :: a2 :: a3 :: a4 :: some (.int (iZ x)) :: t) 0 5 (.int (iZ x))).mpr ⟨5, by omega, rfl⟩
  obtain ⟨i, hi⟩ := List.getElem?_of_mem hm
  refine lv_iinc hx hb d hl hi (iZ_add x w) (by simp only [List.length_cons]; omega) rfl (fun ls' hl' => k hR H locs ls' hP hS ?_)
  exact dn_set (lv := a0 :: a1 :: a2 :: a3 :: a4 :: some (.int (iZ x)) :: t) (by simpa only [List.length_cons] using hl') rfl (fun j hj => ⟨a4, (by cases (show j = 4 by omega); rfl), hp⟩)
theorem x_istore_6 {x : Int32} {a0 a1 a2 a3 a4 a5 z : Option Value} {t : List (Option Value)} (n : Nat) (C : Cx K G N ρ own cc nL fr lo) (d : decode cc pc = .ok (.istore 6, 2)) (hn : pc + 2 = n) (hp : np a5 = true) (k : Ex K G N ρ sh n (a0 :: a1 :: a2 :: a3 :: a4 :: a5 :: some (.int x) :: t) (st) (σ)) : Ex K G N ρ sh pc (a0 :: a1 :: a2 :: a3 :: a4 :: a5 :: z :: t) (.int x :: st) (σ) := by
  obtain ⟨p, l, e, R, s, m, args, below, meth, c, cells, slots, Q⟩ := K
  obtain ⟨hx, hb, hml, hown, hts, hlk, hK, hI, hO, hfr, hlo, hce, hsl, hN2⟩ := C
  subst hn; intro hR H locs ls hP hS hl
  refine lv_istore hx hb d hl (by simp only [List.length_cons]; omega) rfl (fun ls' hl' => k hR H locs ls' hP hS ?_)
  exact dn_set (lv := a0 :: a1 :: a2 :: a3 :: a4 :: a5 :: z :: t) (by simpa only [List.length_cons] using hl') rfl (fun j hj => ⟨a5, (by cases (show j = 5 by omega); rfl), hp⟩)
theorem x_astore_6 {x : Nat} {a0 a1 a2 a3 a4 a5 z : Option Value} {t : List (Option Value)} (n : Nat) (C : Cx K G N ρ own cc nL fr lo) (d : decode cc pc = .ok (.astore 6, 2)) (hn : pc + 2 = n) (hp : np a5 = true) (k : Ex K G N ρ sh n (a0 :: a1 :: a2 :: a3 :: a4 :: a5 :: some (.ref x) :: t) (st) (σ)) : Ex K G N ρ sh pc (a0 :: a1 :: a2 :: a3 :: a4 :: a5 :: z :: t) (.ref x :: st) (σ) := by
  obtain ⟨p, l, e, R, s, m, args, below, meth, c, cells, slots, Q⟩ := K
  obtain ⟨hx, hb, hml, hown, hts, hlk, hK, hI, hO, hfr, hlo, hce, hsl, hN2⟩ := C
  subst hn; intro hR H locs ls hP hS hl
  refine lv_astore hx hb d hl (by simp only [List.length_cons]; omega) rfl (fun ls' hl' => k hR H locs ls' hP hS ?_)
  exact dn_set (lv := a0 :: a1 :: a2 :: a3 :: a4 :: a5 :: z :: t) (by simpa only [List.length_cons] using hl') rfl (fun j hj => ⟨a5, (by cases (show j = 5 by omega); rfl), hp⟩)
theorem x_iinc_6 {x w : Int} {a0 a1 a2 a3 a4 a5 : Option Value} {t : List (Option Value)} (n : Nat) (C : Cx K G N ρ own cc nL fr lo) (d : decode cc pc = .ok (.iinc 6 w, 3)) (hn : pc + 3 = n) (hp : np a5 = true) (k : Ex K G N ρ sh n (a0 :: a1 :: a2 :: a3 :: a4 :: a5 :: some (.int (iZ (x + w))) :: t) (st) (σ)) : Ex K G N ρ sh pc (a0 :: a1 :: a2 :: a3 :: a4 :: a5 :: some (.int (iZ x)) :: t) (st) (σ) := by
  obtain ⟨p, l, e, R, s, m, args, below, meth, c, cells, slots, Q⟩ := K
  obtain ⟨hx, hb, hml, hown, hts, hlk, hK, hI, hO, hfr, hlo, hce, hsl, hN2⟩ := C
  subst hn; intro hR H locs ls hP hS hl
  have hm := (dn_mem (a0 :: a1 :: a2 :: a3 :: a4 :: a5 :: some (.int (iZ x)) :: t) 0 6 (.int (iZ x))).mpr ⟨6, by omega, rfl⟩
  obtain ⟨i, hi⟩ := List.getElem?_of_mem hm
  refine lv_iinc hx hb d hl hi (iZ_add x w) (by simp only [List.length_cons]; omega) rfl (fun ls' hl' => k hR H locs ls' hP hS ?_)
  exact dn_set (lv := a0 :: a1 :: a2 :: a3 :: a4 :: a5 :: some (.int (iZ x)) :: t) (by simpa only [List.length_cons] using hl') rfl (fun j hj => ⟨a5, (by cases (show j = 5 by omega); rfl), hp⟩)
theorem x_istore_7 {x : Int32} {a0 a1 a2 a3 a4 a5 a6 z : Option Value} {t : List (Option Value)} (n : Nat) (C : Cx K G N ρ own cc nL fr lo) (d : decode cc pc = .ok (.istore 7, 2)) (hn : pc + 2 = n) (hp : np a6 = true) (k : Ex K G N ρ sh n (a0 :: a1 :: a2 :: a3 :: a4 :: a5 :: a6 :: some (.int x) :: t) (st) (σ)) : Ex K G N ρ sh pc (a0 :: a1 :: a2 :: a3 :: a4 :: a5 :: a6 :: z :: t) (.int x :: st) (σ) := by
  obtain ⟨p, l, e, R, s, m, args, below, meth, c, cells, slots, Q⟩ := K
  obtain ⟨hx, hb, hml, hown, hts, hlk, hK, hI, hO, hfr, hlo, hce, hsl, hN2⟩ := C
  subst hn; intro hR H locs ls hP hS hl
  refine lv_istore hx hb d hl (by simp only [List.length_cons]; omega) rfl (fun ls' hl' => k hR H locs ls' hP hS ?_)
  exact dn_set (lv := a0 :: a1 :: a2 :: a3 :: a4 :: a5 :: a6 :: z :: t) (by simpa only [List.length_cons] using hl') rfl (fun j hj => ⟨a6, (by cases (show j = 6 by omega); rfl), hp⟩)
theorem x_astore_7 {x : Nat} {a0 a1 a2 a3 a4 a5 a6 z : Option Value} {t : List (Option Value)} (n : Nat) (C : Cx K G N ρ own cc nL fr lo) (d : decode cc pc = .ok (.astore 7, 2)) (hn : pc + 2 = n) (hp : np a6 = true) (k : Ex K G N ρ sh n (a0 :: a1 :: a2 :: a3 :: a4 :: a5 :: a6 :: some (.ref x) :: t) (st) (σ)) : Ex K G N ρ sh pc (a0 :: a1 :: a2 :: a3 :: a4 :: a5 :: a6 :: z :: t) (.ref x :: st) (σ) := by
  obtain ⟨p, l, e, R, s, m, args, below, meth, c, cells, slots, Q⟩ := K
  obtain ⟨hx, hb, hml, hown, hts, hlk, hK, hI, hO, hfr, hlo, hce, hsl, hN2⟩ := C
  subst hn; intro hR H locs ls hP hS hl
  refine lv_astore hx hb d hl (by simp only [List.length_cons]; omega) rfl (fun ls' hl' => k hR H locs ls' hP hS ?_)
  exact dn_set (lv := a0 :: a1 :: a2 :: a3 :: a4 :: a5 :: a6 :: z :: t) (by simpa only [List.length_cons] using hl') rfl (fun j hj => ⟨a6, (by cases (show j = 6 by omega); rfl), hp⟩)
theorem x_iinc_7 {x w : Int} {a0 a1 a2 a3 a4 a5 a6 : Option Value} {t : List (Option Value)} (n : Nat) (C : Cx K G N ρ own cc nL fr lo) (d : decode cc pc = .ok (.iinc 7 w, 3)) (hn : pc + 3 = n) (hp : np a6 = true) (k : Ex K G N ρ sh n (a0 :: a1 :: a2 :: a3 :: a4 :: a5 :: a6 :: some (.int (iZ (x + w))) :: t) (st) (σ)) : Ex K G N ρ sh pc (a0 :: a1 :: a2 :: a3 :: a4 :: a5 :: a6 :: some (.int (iZ x)) :: t) (st) (σ) := by
  obtain ⟨p, l, e, R, s, m, args, below, meth, c, cells, slots, Q⟩ := K
  obtain ⟨hx, hb, hml, hown, hts, hlk, hK, hI, hO, hfr, hlo, hce, hsl, hN2⟩ := C
  subst hn; intro hR H locs ls hP hS hl
  have hm := (dn_mem (a0 :: a1 :: a2 :: a3 :: a4 :: a5 :: a6 :: some (.int (iZ x)) :: t) 0 7 (.int (iZ x))).mpr ⟨7, by omega, rfl⟩
  obtain ⟨i, hi⟩ := List.getElem?_of_mem hm
  refine lv_iinc hx hb d hl hi (iZ_add x w) (by simp only [List.length_cons]; omega) rfl (fun ls' hl' => k hR H locs ls' hP hS ?_)
  exact dn_set (lv := a0 :: a1 :: a2 :: a3 :: a4 :: a5 :: a6 :: some (.int (iZ x)) :: t) (by simpa only [List.length_cons] using hl') rfl (fun j hj => ⟨a6, (by cases (show j = 6 by omega); rfl), hp⟩)
theorem x_istore_8 {x : Int32} {a0 a1 a2 a3 a4 a5 a6 a7 z : Option Value} {t : List (Option Value)} (n : Nat) (C : Cx K G N ρ own cc nL fr lo) (d : decode cc pc = .ok (.istore 8, 2)) (hn : pc + 2 = n) (hp : np a7 = true) (k : Ex K G N ρ sh n (a0 :: a1 :: a2 :: a3 :: a4 :: a5 :: a6 :: a7 :: some (.int x) :: t) (st) (σ)) : Ex K G N ρ sh pc (a0 :: a1 :: a2 :: a3 :: a4 :: a5 :: a6 :: a7 :: z :: t) (.int x :: st) (σ) := by
  obtain ⟨p, l, e, R, s, m, args, below, meth, c, cells, slots, Q⟩ := K
  obtain ⟨hx, hb, hml, hown, hts, hlk, hK, hI, hO, hfr, hlo, hce, hsl, hN2⟩ := C
  subst hn; intro hR H locs ls hP hS hl
  refine lv_istore hx hb d hl (by simp only [List.length_cons]; omega) rfl (fun ls' hl' => k hR H locs ls' hP hS ?_)
  exact dn_set (lv := a0 :: a1 :: a2 :: a3 :: a4 :: a5 :: a6 :: a7 :: z :: t) (by simpa only [List.length_cons] using hl') rfl (fun j hj => ⟨a7, (by cases (show j = 7 by omega); rfl), hp⟩)
theorem x_astore_8 {x : Nat} {a0 a1 a2 a3 a4 a5 a6 a7 z : Option Value} {t : List (Option Value)} (n : Nat) (C : Cx K G N ρ own cc nL fr lo) (d : decode cc pc = .ok (.astore 8, 2)) (hn : pc + 2 = n) (hp : np a7 = true) (k : Ex K G N ρ sh n (a0 :: a1 :: a2 :: a3 :: a4 :: a5 :: a6 :: a7 :: some (.ref x) :: t) (st) (σ)) : Ex K G N ρ sh pc (a0 :: a1 :: a2 :: a3 :: a4 :: a5 :: a6 :: a7 :: z :: t) (.ref x :: st) (σ) := by
  obtain ⟨p, l, e, R, s, m, args, below, meth, c, cells, slots, Q⟩ := K
  obtain ⟨hx, hb, hml, hown, hts, hlk, hK, hI, hO, hfr, hlo, hce, hsl, hN2⟩ := C
  subst hn; intro hR H locs ls hP hS hl
  refine lv_astore hx hb d hl (by simp only [List.length_cons]; omega) rfl (fun ls' hl' => k hR H locs ls' hP hS ?_)
  exact dn_set (lv := a0 :: a1 :: a2 :: a3 :: a4 :: a5 :: a6 :: a7 :: z :: t) (by simpa only [List.length_cons] using hl') rfl (fun j hj => ⟨a7, (by cases (show j = 7 by omega); rfl), hp⟩)
theorem x_iinc_8 {x w : Int} {a0 a1 a2 a3 a4 a5 a6 a7 : Option Value} {t : List (Option Value)} (n : Nat) (C : Cx K G N ρ own cc nL fr lo) (d : decode cc pc = .ok (.iinc 8 w, 3)) (hn : pc + 3 = n) (hp : np a7 = true) (k : Ex K G N ρ sh n (a0 :: a1 :: a2 :: a3 :: a4 :: a5 :: a6 :: a7 :: some (.int (iZ (x + w))) :: t) (st) (σ)) : Ex K G N ρ sh pc (a0 :: a1 :: a2 :: a3 :: a4 :: a5 :: a6 :: a7 :: some (.int (iZ x)) :: t) (st) (σ) := by
  obtain ⟨p, l, e, R, s, m, args, below, meth, c, cells, slots, Q⟩ := K
  obtain ⟨hx, hb, hml, hown, hts, hlk, hK, hI, hO, hfr, hlo, hce, hsl, hN2⟩ := C
  subst hn; intro hR H locs ls hP hS hl
  have hm := (dn_mem (a0 :: a1 :: a2 :: a3 :: a4 :: a5 :: a6 :: a7 :: some (.int (iZ x)) :: t) 0 8 (.int (iZ x))).mpr ⟨8, by omega, rfl⟩
  obtain ⟨i, hi⟩ := List.getElem?_of_mem hm
  refine lv_iinc hx hb d hl hi (iZ_add x w) (by simp only [List.length_cons]; omega) rfl (fun ls' hl' => k hR H locs ls' hP hS ?_)
  exact dn_set (lv := a0 :: a1 :: a2 :: a3 :: a4 :: a5 :: a6 :: a7 :: some (.int (iZ x)) :: t) (by simpa only [List.length_cons] using hl') rfl (fun j hj => ⟨a7, (by cases (show j = 7 by omega); rfl), hp⟩)
theorem x_istore_9 {x : Int32} {a0 a1 a2 a3 a4 a5 a6 a7 a8 z : Option Value} {t : List (Option Value)} (n : Nat) (C : Cx K G N ρ own cc nL fr lo) (d : decode cc pc = .ok (.istore 9, 2)) (hn : pc + 2 = n) (hp : np a8 = true) (k : Ex K G N ρ sh n (a0 :: a1 :: a2 :: a3 :: a4 :: a5 :: a6 :: a7 :: a8 :: some (.int x) :: t) (st) (σ)) : Ex K G N ρ sh pc (a0 :: a1 :: a2 :: a3 :: a4 :: a5 :: a6 :: a7 :: a8 :: z :: t) (.int x :: st) (σ) := by
  obtain ⟨p, l, e, R, s, m, args, below, meth, c, cells, slots, Q⟩ := K
  obtain ⟨hx, hb, hml, hown, hts, hlk, hK, hI, hO, hfr, hlo, hce, hsl, hN2⟩ := C
  subst hn; intro hR H locs ls hP hS hl
  refine lv_istore hx hb d hl (by simp only [List.length_cons]; omega) rfl (fun ls' hl' => k hR H locs ls' hP hS ?_)
  exact dn_set (lv := a0 :: a1 :: a2 :: a3 :: a4 :: a5 :: a6 :: a7 :: a8 :: z :: t) (by simpa only [List.length_cons] using hl') rfl (fun j hj => ⟨a8, (by cases (show j = 8 by omega); rfl), hp⟩)
theorem x_astore_9 {x : Nat} {a0 a1 a2 a3 a4 a5 a6 a7 a8 z : Option Value} {t : List (Option Value)} (n : Nat) (C : Cx K G N ρ own cc nL fr lo) (d : decode cc pc = .ok (.astore 9, 2)) (hn : pc + 2 = n) (hp : np a8 = true) (k : Ex K G N ρ sh n (a0 :: a1 :: a2 :: a3 :: a4 :: a5 :: a6 :: a7 :: a8 :: some (.ref x) :: t) (st) (σ)) : Ex K G N ρ sh pc (a0 :: a1 :: a2 :: a3 :: a4 :: a5 :: a6 :: a7 :: a8 :: z :: t) (.ref x :: st) (σ) := by
  obtain ⟨p, l, e, R, s, m, args, below, meth, c, cells, slots, Q⟩ := K
  obtain ⟨hx, hb, hml, hown, hts, hlk, hK, hI, hO, hfr, hlo, hce, hsl, hN2⟩ := C
  subst hn; intro hR H locs ls hP hS hl
  refine lv_astore hx hb d hl (by simp only [List.length_cons]; omega) rfl (fun ls' hl' => k hR H locs ls' hP hS ?_)
  exact dn_set (lv := a0 :: a1 :: a2 :: a3 :: a4 :: a5 :: a6 :: a7 :: a8 :: z :: t) (by simpa only [List.length_cons] using hl') rfl (fun j hj => ⟨a8, (by cases (show j = 8 by omega); rfl), hp⟩)
theorem x_iinc_9 {x w : Int} {a0 a1 a2 a3 a4 a5 a6 a7 a8 : Option Value} {t : List (Option Value)} (n : Nat) (C : Cx K G N ρ own cc nL fr lo) (d : decode cc pc = .ok (.iinc 9 w, 3)) (hn : pc + 3 = n) (hp : np a8 = true) (k : Ex K G N ρ sh n (a0 :: a1 :: a2 :: a3 :: a4 :: a5 :: a6 :: a7 :: a8 :: some (.int (iZ (x + w))) :: t) (st) (σ)) : Ex K G N ρ sh pc (a0 :: a1 :: a2 :: a3 :: a4 :: a5 :: a6 :: a7 :: a8 :: some (.int (iZ x)) :: t) (st) (σ) := by
  obtain ⟨p, l, e, R, s, m, args, below, meth, c, cells, slots, Q⟩ := K
  obtain ⟨hx, hb, hml, hown, hts, hlk, hK, hI, hO, hfr, hlo, hce, hsl, hN2⟩ := C
  subst hn; intro hR H locs ls hP hS hl
  have hm := (dn_mem (a0 :: a1 :: a2 :: a3 :: a4 :: a5 :: a6 :: a7 :: a8 :: some (.int (iZ x)) :: t) 0 9 (.int (iZ x))).mpr ⟨9, by omega, rfl⟩
  obtain ⟨i, hi⟩ := List.getElem?_of_mem hm
  refine lv_iinc hx hb d hl hi (iZ_add x w) (by simp only [List.length_cons]; omega) rfl (fun ls' hl' => k hR H locs ls' hP hS ?_)
  exact dn_set (lv := a0 :: a1 :: a2 :: a3 :: a4 :: a5 :: a6 :: a7 :: a8 :: some (.int (iZ x)) :: t) (by simpa only [List.length_cons] using hl') rfl (fun j hj => ⟨a8, (by cases (show j = 8 by omega); rfl), hp⟩)
theorem x_istore_10 {x : Int32} {a0 a1 a2 a3 a4 a5 a6 a7 a8 a9 z : Option Value} {t : List (Option Value)} (n : Nat) (C : Cx K G N ρ own cc nL fr lo) (d : decode cc pc = .ok (.istore 10, 2)) (hn : pc + 2 = n) (hp : np a9 = true) (k : Ex K G N ρ sh n (a0 :: a1 :: a2 :: a3 :: a4 :: a5 :: a6 :: a7 :: a8 :: a9 :: some (.int x) :: t) (st) (σ)) : Ex K G N ρ sh pc (a0 :: a1 :: a2 :: a3 :: a4 :: a5 :: a6 :: a7 :: a8 :: a9 :: z :: t) (.int x :: st) (σ) := by
  obtain ⟨p, l, e, R, s, m, args, below, meth, c, cells, slots, Q⟩ := K
  obtain ⟨hx, hb, hml, hown, hts, hlk, hK, hI, hO, hfr, hlo, hce, hsl, hN2⟩ := C
  subst hn; intro hR H locs ls hP hS hl
  refine lv_istore hx hb d hl (by simp only [List.length_cons]; omega) rfl (fun ls' hl' => k hR H locs ls' hP hS ?_)
  exact dn_set (lv := a0 :: a1 :: a2 :: a3 :: a4 :: a5 :: a6 :: a7 :: a8 :: a9 :: z :: t) (by simpa only [List.length_cons] using hl') rfl (fun j hj => ⟨a9, (by cases (show j = 9 by omega); rfl), hp⟩)
theorem x_iinc_10 {x w : Int} {a0 a1 a2 a3 a4 a5 a6 a7 a8 a9 : Option Value} {t : List (Option Value)} (n : Nat) (C : Cx K G N ρ own cc nL fr lo) (d : decode cc pc = .ok (.iinc 10 w, 3)) (hn : pc + 3 = n) (hp : np a9 = true) (k : Ex K G N ρ sh n (a0 :: a1 :: a2 :: a3 :: a4 :: a5 :: a6 :: a7 :: a8 :: a9 :: some (.int (iZ (x + w))) :: t) (st) (σ)) : Ex K G N ρ sh pc (a0 :: a1 :: a2 :: a3 :: a4 :: a5 :: a6 :: a7 :: a8 :: a9 :: some (.int (iZ x)) :: t) (st) (σ) := by
  obtain ⟨p, l, e, R, s, m, args, below, meth, c, cells, slots, Q⟩ := K
  obtain ⟨hx, hb, hml, hown, hts, hlk, hK, hI, hO, hfr, hlo, hce, hsl, hN2⟩ := C
  subst hn; intro hR H locs ls hP hS hl
  have hm := (dn_mem (a0 :: a1 :: a2 :: a3 :: a4 :: a5 :: a6 :: a7 :: a8 :: a9 :: some (.int (iZ x)) :: t) 0 10 (.int (iZ x))).mpr ⟨10, by omega, rfl⟩
  obtain ⟨i, hi⟩ := List.getElem?_of_mem hm
  refine lv_iinc hx hb d hl hi (iZ_add x w) (by simp only [List.length_cons]; omega) rfl (fun ls' hl' => k hR H locs ls' hP hS ?_)
  exact dn_set (lv := a0 :: a1 :: a2 :: a3 :: a4 :: a5 :: a6 :: a7 :: a8 :: a9 :: some (.int (iZ x)) :: t) (by simpa only [List.length_cons] using hl') rfl (fun j hj => ⟨a9, (by cases (show j = 9 by omega); rfl), hp⟩)
theorem x_istore_11 {x : Int32} {a0 a1 a2 a3 a4 a5 a6 a7 a8 a9 a10 z : Option Value} {t : List (Option Value)} (n : Nat) (C : Cx K G N ρ own cc nL fr lo) (d : decode cc pc = .ok (.istore 11, 2)) (hn : pc + 2 = n) (hp : np a10 = true) (k : Ex K G N ρ sh n (a0 :: a1 :: a2 :: a3 :: a4 :: a5 :: a6 :: a7 :: a8 :: a9 :: a10 :: some (.int x) :: t) (st) (σ)) : Ex K G N ρ sh pc (a0 :: a1 :: a2 :: a3 :: a4 :: a5 :: a6 :: a7 :: a8 :: a9 :: a10 :: z :: t) (.int x :: st) (σ) := by
  obtain ⟨p, l, e, R, s, m, args, below, meth, c, cells, slots, Q⟩ := K
  obtain ⟨hx, hb, hml, hown, hts, hlk, hK, hI, hO, hfr, hlo, hce, hsl, hN2⟩ := C
  subst hn; intro hR H locs ls hP hS hl
  refine lv_istore hx hb d hl (by simp only [List.length_cons]; omega) rfl (fun ls' hl' => k hR H locs ls' hP hS ?_)
  exact dn_set (lv := a0 :: a1 :: a2 :: a3 :: a4 :: a5 :: a6 :: a7 :: a8 :: a9 :: a10 :: z :: t) (by simpa only [List.length_cons] using hl') rfl (fun j hj => ⟨a10, (by cases (show j = 10 by omega); rfl), hp⟩)
theorem x_iinc_11 {x w : Int} {a0 a1 a2 a3 a4 a5 a6 a7 a8 a9 a10 : Option Value} {t : List (Option Value)} (n : Nat) (C : Cx K G N ρ own cc nL fr lo) (d : decode cc pc = .ok (.iinc 11 w, 3)) (hn : pc + 3 = n) (hp : np a10 = true) (k : Ex K G N ρ sh n (a0 :: a1 :: a2 :: a3 :: a4 :: a5 :: a6 :: a7 :: a8 :: a9 :: a10 :: some (.int (iZ (x + w))) :: t) (st) (σ)) : Ex K G N ρ sh pc (a0 :: a1 :: a2 :: a3 :: a4 :: a5 :: a6 :: a7 :: a8 :: a9 :: a10 :: some (.int (iZ x)) :: t) (st) (σ) := by
  obtain ⟨p, l, e, R, s, m, args, below, meth, c, cells, slots, Q⟩ := K
  obtain ⟨hx, hb, hml, hown, hts, hlk, hK, hI, hO, hfr, hlo, hce, hsl, hN2⟩ := C
  subst hn; intro hR H locs ls hP hS hl
  have hm := (dn_mem (a0 :: a1 :: a2 :: a3 :: a4 :: a5 :: a6 :: a7 :: a8 :: a9 :: a10 :: some (.int (iZ x)) :: t) 0 11 (.int (iZ x))).mpr ⟨11, by omega, rfl⟩
  obtain ⟨i, hi⟩ := List.getElem?_of_mem hm
  refine lv_iinc hx hb d hl hi (iZ_add x w) (by simp only [List.length_cons]; omega) rfl (fun ls' hl' => k hR H locs ls' hP hS ?_)
  exact dn_set (lv := a0 :: a1 :: a2 :: a3 :: a4 :: a5 :: a6 :: a7 :: a8 :: a9 :: a10 :: some (.int (iZ x)) :: t) (by simpa only [List.length_cons] using hl') rfl (fun j hj => ⟨a10, (by cases (show j = 10 by omega); rfl), hp⟩)
theorem x_istore_12 {x : Int32} {a0 a1 a2 a3 a4 a5 a6 a7 a8 a9 a10 a11 z : Option Value} {t : List (Option Value)} (n : Nat) (C : Cx K G N ρ own cc nL fr lo) (d : decode cc pc = .ok (.istore 12, 2)) (hn : pc + 2 = n) (hp : np a11 = true) (k : Ex K G N ρ sh n (a0 :: a1 :: a2 :: a3 :: a4 :: a5 :: a6 :: a7 :: a8 :: a9 :: a10 :: a11 :: some (.int x) :: t) (st) (σ)) : Ex K G N ρ sh pc (a0 :: a1 :: a2 :: a3 :: a4 :: a5 :: a6 :: a7 :: a8 :: a9 :: a10 :: a11 :: z :: t) (.int x :: st) (σ) := by
  obtain ⟨p, l, e, R, s, m, args, below, meth, c, cells, slots, Q⟩ := K
  obtain ⟨hx, hb, hml, hown, hts, hlk, hK, hI, hO, hfr, hlo, hce, hsl, hN2⟩ := C
  subst hn; intro hR H locs ls hP hS hl
  refine lv_istore hx hb d hl (by simp only [List.length_cons]; omega) rfl (fun ls' hl' => k hR H locs ls' hP hS ?_)
  exact dn_set (lv := a0 :: a1 :: a2 :: a3 :: a4 :: a5 :: a6 :: a7 :: a8 :: a9 :: a10 :: a11 :: z :: t) (by simpa only [List.length_cons] using hl') rfl (fun j hj => ⟨a11, (by cases (show j = 11 by omega); rfl), hp⟩)
theorem x_iinc_12 {x w : Int} {a0 a1 a2 a3 a4 a5 a6 a7 a8 a9 a10 a11 : Option Value} {t : List (Option Value)} (n : Nat) (C : Cx K G N ρ own cc nL fr lo) (d : decode cc pc = .ok (.iinc 12 w, 3)) (hn : pc + 3 = n) (hp : np a11 = true) (k : Ex K G N ρ sh n (a0 :: a1 :: a2 :: a3 :: a4 :: a5 :: a6 :: a7 :: a8 :: a9 :: a10 :: a11 :: some (.int (iZ (x + w))) :: t) (st) (σ)) : Ex K G N ρ sh pc (a0 :: a1 :: a2 :: a3 :: a4 :: a5 :: a6 :: a7 :: a8 :: a9 :: a10 :: a11 :: some (.int (iZ x)) :: t) (st) (σ) := by
  obtain ⟨p, l, e, R, s, m, args, below, meth, c, cells, slots, Q⟩ := K
  obtain ⟨hx, hb, hml, hown, hts, hlk, hK, hI, hO, hfr, hlo, hce, hsl, hN2⟩ := C
  subst hn; intro hR H locs ls hP hS hl
  have hm := (dn_mem (a0 :: a1 :: a2 :: a3 :: a4 :: a5 :: a6 :: a7 :: a8 :: a9 :: a10 :: a11 :: some (.int (iZ x)) :: t) 0 12 (.int (iZ x))).mpr ⟨12, by omega, rfl⟩
  obtain ⟨i, hi⟩ := List.getElem?_of_mem hm
  refine lv_iinc hx hb d hl hi (iZ_add x w) (by simp only [List.length_cons]; omega) rfl (fun ls' hl' => k hR H locs ls' hP hS ?_)
  exact dn_set (lv := a0 :: a1 :: a2 :: a3 :: a4 :: a5 :: a6 :: a7 :: a8 :: a9 :: a10 :: a11 :: some (.int (iZ x)) :: t) (by simpa only [List.length_cons] using hl') rfl (fun j hj => ⟨a11, (by cases (show j = 11 by omega); rfl), hp⟩)
theorem x_istore_13 {x : Int32} {a0 a1 a2 a3 a4 a5 a6 a7 a8 a9 a10 a11 a12 z : Option Value} {t : List (Option Value)} (n : Nat) (C : Cx K G N ρ own cc nL fr lo) (d : decode cc pc = .ok (.istore 13, 2)) (hn : pc + 2 = n) (hp : np a12 = true) (k : Ex K G N ρ sh n (a0 :: a1 :: a2 :: a3 :: a4 :: a5 :: a6 :: a7 :: a8 :: a9 :: a10 :: a11 :: a12 :: some (.int x) :: t) (st) (σ)) : Ex K G N ρ sh pc (a0 :: a1 :: a2 :: a3 :: a4 :: a5 :: a6 :: a7 :: a8 :: a9 :: a10 :: a11 :: a12 :: z :: t) (.int x :: st) (σ) := by
  obtain ⟨p, l, e, R, s, m, args, below, meth, c, cells, slots, Q⟩ := K
  obtain ⟨hx, hb, hml, hown, hts, hlk, hK, hI, hO, hfr, hlo, hce, hsl, hN2⟩ := C
  subst hn; intro hR H locs ls hP hS hl
  refine lv_istore hx hb d hl (by simp only [List.length_cons]; omega) rfl (fun ls' hl' => k hR H locs ls' hP hS ?_)
  exact dn_set (lv := a0 :: a1 :: a2 :: a3 :: a4 :: a5 :: a6 :: a7 :: a8 :: a9 :: a10 :: a11 :: a12 :: z :: t) (by simpa only [List.length_cons] using hl') rfl (fun j hj => ⟨a12, (by cases (show j = 12 by omega); rfl), hp⟩)
theorem x_iinc_13 {x w : Int} {a0 a1 a2 a3 a4 a5 a6 a7 a8 a9 a10 a11 a12 : Option Value} {t : List (Option Value)} (n : Nat) (C : Cx K G N ρ own cc nL fr lo) (d : decode cc pc = .ok (.iinc 13 w, 3)) (hn : pc + 3 = n) (hp : np a12 = true) (k : Ex K G N ρ sh n (a0 :: a1 :: a2 :: a3 :: a4 :: a5 :: a6 :: a7 :: a8 :: a9 :: a10 :: a11 :: a12 :: some (.int (iZ (x + w))) :: t) (st) (σ)) : Ex K G N ρ sh pc (a0 :: a1 :: a2 :: a3 :: a4 :: a5 :: a6 :: a7 :: a8 :: a9 :: a10 :: a11 :: a12 :: some (.int (iZ x)) :: t) (st) (σ) := by
  obtain ⟨p, l, e, R, s, m, args, below, meth, c, cells, slots, Q⟩ := K
  obtain ⟨hx, hb, hml, hown, hts, hlk, hK, hI, hO, hfr, hlo, hce, hsl, hN2⟩ := C
  subst hn; intro hR H locs ls hP hS hl
  have hm := (dn_mem (a0 :: a1 :: a2 :: a3 :: a4 :: a5 :: a6 :: a7 :: a8 :: a9 :: a10 :: a11 :: a12 :: some (.int (iZ x)) :: t) 0 13 (.int (iZ x))).mpr ⟨13, by omega, rfl⟩
  obtain ⟨i, hi⟩ := List.getElem?_of_mem hm
  refine lv_iinc hx hb d hl hi (iZ_add x w) (by simp only [List.length_cons]; omega) rfl (fun ls' hl' => k hR H locs ls' hP hS ?_)
  exact dn_set (lv := a0 :: a1 :: a2 :: a3 :: a4 :: a5 :: a6 :: a7 :: a8 :: a9 :: a10 :: a11 :: a12 :: some (.int (iZ x)) :: t) (by simpa only [List.length_cons] using hl') rfl (fun j hj => ⟨a12, (by cases (show j = 12 by omega); rfl), hp⟩)
theorem x_lstore_n0 {x : Int64} {z y : Option Value} {t : List (Option Value)} (n : Nat) (C : Cx K G N ρ own cc nL fr lo) (d : decode cc pc = .ok (.lstore_n 0, 1)) (hn : pc + 1 = n) (k : Ex K G N ρ sh n (some (.long x) :: none :: t) (st) (σ)) : Ex K G N ρ sh pc (z :: y :: t) (.long x :: st) (σ) := by
  obtain ⟨p, l, e, R, s, m, args, below, meth, c, cells, slots, Q⟩ := K
  obtain ⟨hx, hb, hml, hown, hts, hlk, hK, hI, hO, hfr, hlo, hce, hsl, hN2⟩ := C
  subst hn; intro hR H locs ls hP hS hl
  refine lv_lstore_n hx hb d rfl hl (by simp only [List.length_cons]; omega) rfl (fun ls' hl' => k hR H locs ls' hP hS ?_)
  exact dn_setl (lv := z :: y :: t) (by simpa only [List.length_cons] using hl') rfl (fun j hj => absurd hj (by omega))
theorem x_lstore_0 {x : Int64} {z y : Option Value} {t : List (Option Value)} (n : Nat) (C : Cx K G N ρ own cc nL fr lo) (d : decode cc pc = .ok (.lstore 0, 2)) (hn : pc + 2 = n) (k : Ex K G N ρ sh n (some (.long x) :: none :: t) (st) (σ)) : Ex K G N ρ sh pc (z :: y :: t) (.long x :: st) (σ) := by
  obtain ⟨p, l, e, R, s, m, args, below, meth, c, cells, slots, Q⟩ := K
  obtain ⟨hx, hb, hml, hown, hts, hlk, hK, hI, hO, hfr, hlo, hce, hsl, hN2⟩ := C
  subst hn; intro hR H locs ls hP hS hl
  refine lv_lstore hx hb d hl (by simp only [List.length_cons]; omega) rfl (fun ls' hl' => k hR H locs ls' hP hS ?_)
  exact dn_setl (lv := z :: y :: t) (by simpa only [List.length_cons] using hl') rfl (fun j hj => absurd hj (by omega))
theorem x_lstore_n1 {x : Int64} {a0 z y : Option Value} {t : List (Option Value)} (n : Nat) (C : Cx K G N ρ own cc nL fr lo) (d : decode cc pc = .ok (.lstore_n 1, 1)) (hn : pc + 1 = n) (hp : np a0 = true) (k : Ex K G N ρ sh n (a0 :: some (.long x) :: none :: t) (st) (σ)) : Ex K G N ρ sh pc (a0 :: z :: y :: t) (.long x :: st) (σ) := by
  obtain ⟨p, l, e, R, s, m, args, below, meth, c, cells, slots, Q⟩ := K
  obtain ⟨hx, hb, hml, hown, hts, hlk, hK, hI, hO, hfr, hlo, hce, hsl, hN2⟩ := C
  subst hn; intro hR H locs ls hP hS hl
  refine lv_lstore_n hx hb d rfl hl (by simp only [List.length_cons]; omega) rfl (fun ls' hl' => k hR H locs ls' hP hS ?_)
  exact dn_setl (lv := a0 :: z :: y :: t) (by simpa only [List.length_cons] using hl') rfl (fun j hj => ⟨a0, (by cases (show j = 0 by omega); rfl), hp⟩)
theorem x_lstore_1 {x : Int64} {a0 z y : Option Value} {t : List (Option Value)} (n : Nat) (C : Cx K G N ρ own cc nL fr lo) (d : decode cc pc = .ok (.lstore 1, 2)) (hn : pc + 2 = n) (hp : np a0 = true) (k : Ex K G N ρ sh n (a0 :: some (.long x) :: none :: t) (st) (σ)) : Ex K G N ρ sh pc (a0 :: z :: y :: t) (.long x :: st) (σ) := by
  obtain ⟨p, l, e, R, s, m, args, below, meth, c, cells, slots, Q⟩ := K
  obtain ⟨hx, hb, hml, hown, hts, hlk, hK, hI, hO, hfr, hlo, hce, hsl, hN2⟩ := C
  subst hn; intro hR H locs ls hP hS hl
  refine lv_lstore hx hb d hl (by simp only [List.length_cons]; omega) rfl (fun ls' hl' => k hR H locs ls' hP hS ?_)
  exact dn_setl (lv := a0 :: z :: y :: t) (by simpa only [List.length_cons] using hl') rfl (fun j hj => ⟨a0, (by cases (show j = 0 by omega); rfl), hp⟩)
theorem x_lstore_n2 {x : Int64} {a0 a1 z y : Option Value} {t : List (Option Value)} (n : Nat) (C : Cx K G N ρ own cc nL fr lo) (d : decode cc pc = .ok (.lstore_n 2, 1)) (hn : pc + 1 = n) (hp : np a1 = true) (k : Ex K G N ρ sh n (a0 :: a1 :: some (.long x) :: none :: t) (st) (σ)) : Ex K G N ρ sh pc (a0 :: a1 :: z :: y :: t) (.long x :: st) (σ) := by
  obtain ⟨p, l, e, R, s, m, args, below, meth, c, cells, slots, Q⟩ := K
  obtain ⟨hx, hb, hml, hown, hts, hlk, hK, hI, hO, hfr, hlo, hce, hsl, hN2⟩ := C
  subst hn; intro hR H locs ls hP hS hl
  refine lv_lstore_n hx hb d rfl hl (by simp only [List.length_cons]; omega) rfl (fun ls' hl' => k hR H locs ls' hP hS ?_)
  exact dn_setl (lv := a0 :: a1 :: z :: y :: t) (by simpa only [List.length_cons] using hl') rfl (fun j hj => ⟨a1, (by cases (show j = 1 by omega); rfl), hp⟩)
theorem x_lstore_2 {x : Int64} {a0 a1 z y : Option Value} {t : List (Option Value)} (n : Nat) (C : Cx K G N ρ own cc nL fr lo) (d : decode cc pc = .ok (.lstore 2, 2)) (hn : pc + 2 = n) (hp : np a1 = true) (k : Ex K G N ρ sh n (a0 :: a1 :: some (.long x) :: none :: t) (st) (σ)) : Ex K G N ρ sh pc (a0 :: a1 :: z :: y :: t) (.long x :: st) (σ) := by
  obtain ⟨p, l, e, R, s, m, args, below, meth, c, cells, slots, Q⟩ := K
  obtain ⟨hx, hb, hml, hown, hts, hlk, hK, hI, hO, hfr, hlo, hce, hsl, hN2⟩ := C
  subst hn; intro hR H locs ls hP hS hl
  refine lv_lstore hx hb d hl (by simp only [List.length_cons]; omega) rfl (fun ls' hl' => k hR H locs ls' hP hS ?_)
  exact dn_setl (lv := a0 :: a1 :: z :: y :: t) (by simpa only [List.length_cons] using hl') rfl (fun j hj => ⟨a1, (by cases (show j = 1 by omega); rfl), hp⟩)
theorem x_lstore_n3 {x : Int64} {a0 a1 a2 z y : Option Value} {t : List (Option Value)} (n : Nat) (C : Cx K G N ρ own cc nL fr lo) (d : decode cc pc = .ok (.lstore_n 3, 1)) (hn : pc + 1 = n) (hp : np a2 = true) (k : Ex K G N ρ sh n (a0 :: a1 :: a2 :: some (.long x) :: none :: t) (st) (σ)) : Ex K G N ρ sh pc (a0 :: a1 :: a2 :: z :: y :: t) (.long x :: st) (σ) := by
  obtain ⟨p, l, e, R, s, m, args, below, meth, c, cells, slots, Q⟩ := K
  obtain ⟨hx, hb, hml, hown, hts, hlk, hK, hI, hO, hfr, hlo, hce, hsl, hN2⟩ := C
  subst hn; intro hR H locs ls hP hS hl
  refine lv_lstore_n hx hb d rfl hl (by simp only [List.length_cons]; omega) rfl (fun ls' hl' => k hR H locs ls' hP hS ?_)
  exact dn_setl (lv := a0 :: a1 :: a2 :: z :: y :: t) (by simpa only [List.length_cons] using hl') rfl (fun j hj => ⟨a2, (by cases (show j = 2 by omega); rfl), hp⟩)
theorem x_lstore_3 {x : Int64} {a0 a1 a2 z y : Option Value} {t : List (Option Value)} (n : Nat) (C : Cx K G N ρ own cc nL fr lo) (d : decode cc pc = .ok (.lstore 3, 2)) (hn : pc + 2 = n) (hp : np a2 = true) (k : Ex K G N ρ sh n (a0 :: a1 :: a2 :: some (.long x) :: none :: t) (st) (σ)) : Ex K G N ρ sh pc (a0 :: a1 :: a2 :: z :: y :: t) (.long x :: st) (σ) := by
  obtain ⟨p, l, e, R, s, m, args, below, meth, c, cells, slots, Q⟩ := K
  obtain ⟨hx, hb, hml, hown, hts, hlk, hK, hI, hO, hfr, hlo, hce, hsl, hN2⟩ := C
  subst hn; intro hR H locs ls hP hS hl
  refine lv_lstore hx hb d hl (by simp only [List.length_cons]; omega) rfl (fun ls' hl' => k hR H locs ls' hP hS ?_)
  exact dn_setl (lv := a0 :: a1 :: a2 :: z :: y :: t) (by simpa only [List.length_cons] using hl') rfl (fun j hj => ⟨a2, (by cases (show j = 2 by omega); rfl), hp⟩)
theorem x_lstore_4 {x : Int64} {a0 a1 a2 a3 z y : Option Value} {t : List (Option Value)} (n : Nat) (C : Cx K G N ρ own cc nL fr lo) (d : decode cc pc = .ok (.lstore 4, 2)) (hn : pc + 2 = n) (hp : np a3 = true) (k : Ex K G N ρ sh n (a0 :: a1 :: a2 :: a3 :: some (.long x) :: none :: t) (st) (σ)) : Ex K G N ρ sh pc (a0 :: a1 :: a2 :: a3 :: z :: y :: t) (.long x :: st) (σ) := by
  obtain ⟨p, l, e, R, s, m, args, below, meth, c, cells, slots, Q⟩ := K
  obtain ⟨hx, hb, hml, hown, hts, hlk, hK, hI, hO, hfr, hlo, hce, hsl, hN2⟩ := C
  subst hn; intro hR H locs ls hP hS hl
  refine lv_lstore hx hb d hl (by simp only [List.length_cons]; omega) rfl (fun ls' hl' => k hR H locs ls' hP hS ?_)
  exact dn_setl (lv := a0 :: a1 :: a2 :: a3 :: z :: y :: t) (by simpa only [List.length_cons] using hl') rfl (fun j hj => ⟨a3, (by cases (show j = 3 by omega); rfl), hp⟩)
theorem x_lstore_5 {x : Int64} {a0 a1 a2 a3 a4 z y : Option Value} {t : List (Option Value)} (n : Nat) (C : Cx K G N ρ own cc nL fr lo) (d : decode cc pc = .ok (.lstore 5, 2)) (hn : pc + 2 = n) (hp : np a4 = true) (k : Ex K G N ρ sh n (a0 :: a1 :: a2 :: a3 :: a4 :: some (.long x) :: none :: t) (st) (σ)) : Ex K G N ρ sh pc (a0 :: a1 :: a2 :: a3 :: a4 :: z :: y :: t) (.long x :: st) (σ) := by
  obtain ⟨p, l, e, R, s, m, args, below, meth, c, cells, slots, Q⟩ := K
  obtain ⟨hx, hb, hml, hown, hts, hlk, hK, hI, hO, hfr, hlo, hce, hsl, hN2⟩ := C
  subst hn; intro hR H locs ls hP hS hl
  refine lv_lstore hx hb d hl (by simp only [List.length_cons]; omega) rfl (fun ls' hl' => k hR H locs ls' hP hS ?_)
  exact dn_setl (lv := a0 :: a1 :: a2 :: a3 :: a4 :: z :: y :: t) (by simpa only [List.length_cons] using hl') rfl (fun j hj => ⟨a4, (by cases (show j = 4 by omega); rfl), hp⟩)
theorem x_lstore_6 {x : Int64} {a0 a1 a2 a3 a4 a5 z y : Option Value} {t : List (Option Value)} (n : Nat) (C : Cx K G N ρ own cc nL fr lo) (d : decode cc pc = .ok (.lstore 6, 2)) (hn : pc + 2 = n) (hp : np a5 = true) (k : Ex K G N ρ sh n (a0 :: a1 :: a2 :: a3 :: a4 :: a5 :: some (.long x) :: none :: t) (st) (σ)) : Ex K G N ρ sh pc (a0 :: a1 :: a2 :: a3 :: a4 :: a5 :: z :: y :: t) (.long x :: st) (σ) := by
  obtain ⟨p, l, e, R, s, m, args, below, meth, c, cells, slots, Q⟩ := K
  obtain ⟨hx, hb, hml, hown, hts, hlk, hK, hI, hO, hfr, hlo, hce, hsl, hN2⟩ := C
  subst hn; intro hR H locs ls hP hS hl
  refine lv_lstore hx hb d hl (by simp only [List.length_cons]; omega) rfl (fun ls' hl' => k hR H locs ls' hP hS ?_)
  exact dn_setl (lv := a0 :: a1 :: a2 :: a3 :: a4 :: a5 :: z :: y :: t) (by simpa only [List.length_cons] using hl') rfl (fun j hj => ⟨a5, (by cases (show j = 5 by omega); rfl), hp⟩)
theorem x_lstore_7 {x : Int64} {a0 a1 a2 a3 a4 a5 a6 z y : Option Value} {t : List (Option Value)} (n : Nat) (C : Cx K G N ρ own cc nL fr lo) (d : decode cc pc = .ok (.lstore 7, 2)) (hn : pc + 2 = n) (hp : np a6 = true) (k : Ex K G N ρ sh n (a0 :: a1 :: a2 :: a3 :: a4 :: a5 :: a6 :: some (.long x) :: none :: t) (st) (σ)) : Ex K G N ρ sh pc (a0 :: a1 :: a2 :: a3 :: a4 :: a5 :: a6 :: z :: y :: t) (.long x :: st) (σ) := by
  obtain ⟨p, l, e, R, s, m, args, below, meth, c, cells, slots, Q⟩ := K
  obtain ⟨hx, hb, hml, hown, hts, hlk, hK, hI, hO, hfr, hlo, hce, hsl, hN2⟩ := C
  subst hn; intro hR H locs ls hP hS hl
  refine lv_lstore hx hb d hl (by simp only [List.length_cons]; omega) rfl (fun ls' hl' => k hR H locs ls' hP hS ?_)
  exact dn_setl (lv := a0 :: a1 :: a2 :: a3 :: a4 :: a5 :: a6 :: z :: y :: t) (by simpa only [List.length_cons] using hl') rfl (fun j hj => ⟨a6, (by cases (show j = 6 by omega); rfl), hp⟩)
theorem x_lstore_8 {x : Int64} {a0 a1 a2 a3 a4 a5 a6 a7 z y : Option Value} {t : List (Option Value)} (n : Nat) (C : Cx K G N ρ own cc nL fr lo) (d : decode cc pc = .ok (.lstore 8, 2)) (hn : pc + 2 = n) (hp : np a7 = true) (k : Ex K G N ρ sh n (a0 :: a1 :: a2 :: a3 :: a4 :: a5 :: a6 :: a7 :: some (.long x) :: none :: t) (st) (σ)) : Ex K G N ρ sh pc (a0 :: a1 :: a2 :: a3 :: a4 :: a5 :: a6 :: a7 :: z :: y :: t) (.long x :: st) (σ) := by
  obtain ⟨p, l, e, R, s, m, args, below, meth, c, cells, slots, Q⟩ := K
  obtain ⟨hx, hb, hml, hown, hts, hlk, hK, hI, hO, hfr, hlo, hce, hsl, hN2⟩ := C
  subst hn; intro hR H locs ls hP hS hl
  refine lv_lstore hx hb d hl (by simp only [List.length_cons]; omega) rfl (fun ls' hl' => k hR H locs ls' hP hS ?_)
  exact dn_setl (lv := a0 :: a1 :: a2 :: a3 :: a4 :: a5 :: a6 :: a7 :: z :: y :: t) (by simpa only [List.length_cons] using hl') rfl (fun j hj => ⟨a7, (by cases (show j = 7 by omega); rfl), hp⟩)
theorem x_lstore_9 {x : Int64} {a0 a1 a2 a3 a4 a5 a6 a7 a8 z y : Option Value} {t : List (Option Value)} (n : Nat) (C : Cx K G N ρ own cc nL fr lo) (d : decode cc pc = .ok (.lstore 9, 2)) (hn : pc + 2 = n) (hp : np a8 = true) (k : Ex K G N ρ sh n (a0 :: a1 :: a2 :: a3 :: a4 :: a5 :: a6 :: a7 :: a8 :: some (.long x) :: none :: t) (st) (σ)) : Ex K G N ρ sh pc (a0 :: a1 :: a2 :: a3 :: a4 :: a5 :: a6 :: a7 :: a8 :: z :: y :: t) (.long x :: st) (σ) := by
  obtain ⟨p, l, e, R, s, m, args, below, meth, c, cells, slots, Q⟩ := K
  obtain ⟨hx, hb, hml, hown, hts, hlk, hK, hI, hO, hfr, hlo, hce, hsl, hN2⟩ := C
  subst hn; intro hR H locs ls hP hS hl
  refine lv_lstore hx hb d hl (by simp only [List.length_cons]; omega) rfl (fun ls' hl' => k hR H locs ls' hP hS ?_)
  exact dn_setl (lv := a0 :: a1 :: a2 :: a3 :: a4 :: a5 :: a6 :: a7 :: a8 :: z :: y :: t) (by simpa only [List.length_cons] using hl') rfl (fun j hj => ⟨a8, (by cases (show j = 8 by omega); rfl), hp⟩)
theorem x_lstore_10 {x : Int64} {a0 a1 a2 a3 a4 a5 a6 a7 a8 a9 z y : Option Value} {t : List (Option Value)} (n : Nat) (C : Cx K G N ρ own cc nL fr lo) (d : decode cc pc = .ok (.lstore 10, 2)) (hn : pc + 2 = n) (hp : np a9 = true) (k : Ex K G N ρ sh n (a0 :: a1 :: a2 :: a3 :: a4 :: a5 :: a6 :: a7 :: a8 :: a9 :: some (.long x) :: none :: t) (st) (σ)) : Ex K G N ρ sh pc (a0 :: a1 :: a2 :: a3 :: a4 :: a5 :: a6 :: a7 :: a8 :: a9 :: z :: y :: t) (.long x :: st) (σ) := by
  obtain ⟨p, l, e, R, s, m, args, below, meth, c, cells, slots, Q⟩ := K
  obtain ⟨hx, hb, hml, hown, hts, hlk, hK, hI, hO, hfr, hlo, hce, hsl, hN2⟩ := C
  subst hn; intro hR H locs ls hP hS hl
  refine lv_lstore hx hb d hl (by simp only [List.length_cons]; omega) rfl (fun ls' hl' => k hR H locs ls' hP hS ?_)
  exact dn_setl (lv := a0 :: a1 :: a2 :: a3 :: a4 :: a5 :: a6 :: a7 :: a8 :: a9 :: z :: y :: t) (by simpa only [List.length_cons] using hl') rfl (fun j hj => ⟨a9, (by cases (show j = 9 by omega); rfl), hp⟩)
theorem x_lstore_11 {x : Int64} {a0 a1 a2 a3 a4 a5 a6 a7 a8 a9 a10 z y : Option Value} {t : List (Option Value)} (n : Nat) (C : Cx K G N ρ own cc nL fr lo) (d : decode cc pc = .ok (.lstore 11, 2)) (hn : pc + 2 = n) (hp : np a10 = true) (k : Ex K G N ρ sh n (a0 :: a1 :: a2 :: a3 :: a4 :: a5 :: a6 :: a7 :: a8 :: a9 :: a10 :: some (.long x) :: none :: t) (st) (σ)) : Ex K G N ρ sh pc (a0 :: a1 :: a2 :: a3 :: a4 :: a5 :: a6 :: a7 :: a8 :: a9 :: a10 :: z :: y :: t) (.long x :: st) (σ) := by
  obtain ⟨p, l, e, R, s, m, args, below, meth, c, cells, slots, Q⟩ := K
  obtain ⟨hx, hb, hml, hown, hts, hlk, hK, hI, hO, hfr, hlo, hce, hsl, hN2⟩ := C
  subst hn; intro hR H locs ls hP hS hl
  refine lv_lstore hx hb d hl (by simp only [List.length_cons]; omega) rfl (fun ls' hl' => k hR H locs ls' hP hS ?_)
  exact dn_setl (lv := a0 :: a1 :: a2 :: a3 :: a4 :: a5 :: a6 :: a7 :: a8 :: a9 :: a10 :: z :: y :: t) (by simpa only [List.length_cons] using hl') rfl (fun j hj => ⟨a10, (by cases (show j = 10 by omega); rfl), hp⟩)
theorem x_iadd {x y : Int} (n : Nat) (C : Cx K G N ρ own cc nL fr lo) (d : decode cc pc = .ok (.iadd, 1)) (hn : pc + 1 = n) (k : Ex K G N ρ sh n lv (.int (iZ (x + y)) :: st) (σ)) : Ex K G N ρ sh pc lv (.int (iZ y) :: .int (iZ x) :: st) (σ) := by
  obtain ⟨p, l, e, R, s, m, args, below, meth, c, cells, slots, Q⟩ := K
  obtain ⟨hx, hb, hml, hown, hts, hlk, hK, hI, hO, hfr, hlo, hce, hsl, hN2⟩ := C
  subst hn; intro hR H locs ls hP hS hl
  refine lv_iadd hx hb d ?_
  rw [iZ_add]
  exact k hR H locs ls hP hS hl
theorem x_isub {x y : Int} (n : Nat) (C : Cx K G N ρ own cc nL fr lo) (d : decode cc pc = .ok (.isub, 1)) (hn : pc + 1 = n) (k : Ex K G N ρ sh n lv (.int (iZ (x - y)) :: st) (σ)) : Ex K G N ρ sh pc lv (.int (iZ y) :: .int (iZ x) :: st) (σ) := by
  obtain ⟨p, l, e, R, s, m, args, below, meth, c, cells, slots, Q⟩ := K
  obtain ⟨hx, hb, hml, hown, hts, hlk, hK, hI, hO, hfr, hlo, hce, hsl, hN2⟩ := C
  subst hn; intro hR H locs ls hP hS hl
  refine lv_isub hx hb d ?_
  rw [iZ_sub]
  exact k hR H locs ls hP hS hl
theorem x_imul {x y : Int} (n : Nat) (C : Cx K G N ρ own cc nL fr lo) (d : decode cc pc = .ok (.imul, 1)) (hn : pc + 1 = n) (k : Ex K G N ρ sh n lv (.int (iZ (x * y)) :: st) (σ)) : Ex K G N ρ sh pc lv (.int (iZ y) :: .int (iZ x) :: st) (σ) := by
  obtain ⟨p, l, e, R, s, m, args, below, meth, c, cells, slots, Q⟩ := K
  obtain ⟨hx, hb, hml, hown, hts, hlk, hK, hI, hO, hfr, hlo, hce, hsl, hN2⟩ := C
  subst hn; intro hR H locs ls hP hS hl
  refine lv_imul hx hb d ?_
  rw [iZ_mul]
  exact k hR H locs ls hP hS hl
theorem x_ineg {x : Int} (n : Nat) (C : Cx K G N ρ own cc nL fr lo) (d : decode cc pc = .ok (.ineg, 1)) (hn : pc + 1 = n) (k : Ex K G N ρ sh n lv (.int (iZ (-x)) :: st) (σ)) : Ex K G N ρ sh pc lv (.int (iZ x) :: st) (σ) := by
  obtain ⟨p, l, e, R, s, m, args, below, meth, c, cells, slots, Q⟩ := K
  obtain ⟨hx, hb, hml, hown, hts, hlk, hK, hI, hO, hfr, hlo, hce, hsl, hN2⟩ := C
  subst hn; intro hR H locs ls hP hS hl
  refine lv_ineg hx hb d ?_
  rw [iZ_neg]
  exact k hR H locs ls hP hS hl
theorem x_icmp_eq {x y : Int} {off : Int} (tgt : Nat) (n : Nat) (C : Cx K G N ρ own cc nL fr lo) (d : decode cc pc = .ok (.if_icmp .eq off, 3)) (hn : pc + 3 = n) (ht : (pc : Int) + off = (tgt : Int)) (hx1 : -2147483648 ≤ x ∧ x ≤ 2147483647) (hy1 : -2147483648 ≤ y ∧ y ≤ 2147483647) (kt : x = y → Ex K G N ρ sh tgt lv (st) (σ)) (kf : ¬ (x = y) → Ex K G N ρ sh n lv (st) (σ)) : Ex K G N ρ sh pc lv (.int (iZ y) :: .int (iZ x) :: st) (σ) := by
  obtain ⟨p, l, e, R, s, m, args, below, meth, c, cells, slots, Q⟩ := K
  obtain ⟨hx, hb, hml, hown, hts, hlk, hK, hI, hO, hfr, hlo, hce, hsl, hN2⟩ := C
  subst hn; intro hR H locs ls hP hS hl
  refine lv_icmp_eq hx hb d ht (fun h => kt ?_ hR H locs ls hP hS hl) (fun h => kf ?_ hR H locs ls hP hS hl)
  · rwa [iZ_eq hx1 hy1] at h
  · rwa [iZ_eq hx1 hy1] at h
theorem x_if_eq {x : Int} {off : Int} (tgt : Nat) (n : Nat) (C : Cx K G N ρ own cc nL fr lo) (d : decode cc pc = .ok (.ifCond .eq off, 3)) (hn : pc + 3 = n) (ht : (pc : Int) + off = (tgt : Int)) (hx1 : -2147483648 ≤ x ∧ x ≤ 2147483647) (kt : x = 0 → Ex K G N ρ sh tgt lv (st) (σ)) (kf : ¬ (x = 0) → Ex K G N ρ sh n lv (st) (σ)) : Ex K G N ρ sh pc lv (.int (iZ x) :: st) (σ) := by
  obtain ⟨p, l, e, R, s, m, args, below, meth, c, cells, slots, Q⟩ := K
  obtain ⟨hx, hb, hml, hown, hts, hlk, hK, hI, hO, hfr, hlo, hce, hsl, hN2⟩ := C
  subst hn; intro hR H locs ls hP hS hl
  refine lv_if_eq hx hb d ht (fun h => kt ?_ hR H locs ls hP hS hl) (fun h => kf ?_ hR H locs ls hP hS hl)
  · rwa [← iZ_0, iZ_eq hx1 (y := 0) (by omega)] at h
  · rwa [← iZ_0, iZ_eq hx1 (y := 0) (by omega)] at h
theorem x_icmp_ne {x y : Int} {off : Int} (tgt : Nat) (n : Nat) (C : Cx K G N ρ own cc nL fr lo) (d : decode cc pc = .ok (.if_icmp .ne off, 3)) (hn : pc + 3 = n) (ht : (pc : Int) + off = (tgt : Int)) (hx1 : -2147483648 ≤ x ∧ x ≤ 2147483647) (hy1 : -2147483648 ≤ y ∧ y ≤ 2147483647) (kt : x ≠ y → Ex K G N ρ sh tgt lv (st) (σ)) (kf : x = y → Ex K G N ρ sh n lv (st) (σ)) : Ex K G N ρ sh pc lv (.int (iZ y) :: .int (iZ x) :: st) (σ) := by
  obtain ⟨p, l, e, R, s, m, args, below, meth, c, cells, slots, Q⟩ := K
  obtain ⟨hx, hb, hml, hown, hts, hlk, hK, hI, hO, hfr, hlo, hce, hsl, hN2⟩ := C
  subst hn; intro hR H locs ls hP hS hl
  refine lv_icmp_ne hx hb d ht (fun h => kt ?_ hR H locs ls hP hS hl) (fun h => kf ?_ hR H locs ls hP hS hl)
  · intro h2; exact h (by rw [h2])
  · exact (iff_of_eq (iZ_eq hx1 hy1)).mp h
theorem x_if_ne {x : Int} {off : Int} (tgt : Nat) (n : Nat) (C : Cx K G N ρ own cc nL fr lo) (d : decode cc pc = .ok (.ifCond .ne off, 3)) (hn : pc + 3 = n) (ht : (pc : Int) + off = (tgt : Int)) (hx1 : -2147483648 ≤ x ∧ x ≤ 2147483647) (kt : x ≠ 0 → Ex K G N ρ sh tgt lv (st) (σ)) (kf : x = 0 → Ex K G N ρ sh n lv (st) (σ)) : Ex K G N ρ sh pc lv (.int (iZ x) :: st) (σ) := by
  obtain ⟨p, l, e, R, s, m, args, below, meth, c, cells, slots, Q⟩ := K
  obtain ⟨hx, hb, hml, hown, hts, hlk, hK, hI, hO, hfr, hlo, hce, hsl, hN2⟩ := C
  subst hn; intro hR H locs ls hP hS hl
  refine lv_if_ne hx hb d ht (fun h => kt ?_ hR H locs ls hP hS hl) (fun h => kf ?_ hR H locs ls hP hS hl)
  · intro h2; exact h (by rw [h2]; rfl)
  · exact (iff_of_eq (iZ_eq hx1 (y := 0) (by omega))).mp (h.trans iZ_0.symm)
theorem x_icmp_lt {x y : Int} {off : Int} (tgt : Nat) (n : Nat) (C : Cx K G N ρ own cc nL fr lo) (d : decode cc pc = .ok (.if_icmp .lt off, 3)) (hn : pc + 3 = n) (ht : (pc : Int) + off = (tgt : Int)) (hx1 : -2147483648 ≤ x ∧ x ≤ 2147483647) (hy1 : -2147483648 ≤ y ∧ y ≤ 2147483647) (kt : x < y → Ex K G N ρ sh tgt lv (st) (σ)) (kf : ¬ (x < y) → Ex K G N ρ sh n lv (st) (σ)) : Ex K G N ρ sh pc lv (.int (iZ y) :: .int (iZ x) :: st) (σ) := by
  obtain ⟨p, l, e, R, s, m, args, below, meth, c, cells, slots, Q⟩ := K
  obtain ⟨hx, hb, hml, hown, hts, hlk, hK, hI, hO, hfr, hlo, hce, hsl, hN2⟩ := C
  subst hn; intro hR H locs ls hP hS hl
  refine lv_icmp_lt hx hb d ht (fun h => kt ?_ hR H locs ls hP hS hl) (fun h => kf ?_ hR H locs ls hP hS hl)
  · rwa [iZ_lt hx1 hy1] at h
  · rwa [iZ_lt hx1 hy1] at h
theorem x_if_lt {x : Int} {off : Int} (tgt : Nat) (n : Nat) (C : Cx K G N ρ own cc nL fr lo) (d : decode cc pc = .ok (.ifCond .lt off, 3)) (hn : pc + 3 = n) (ht : (pc : Int) + off = (tgt : Int)) (hx1 : -2147483648 ≤ x ∧ x ≤ 2147483647) (kt : x < 0 → Ex K G N ρ sh tgt lv (st) (σ)) (kf : ¬ (x < 0) → Ex K G N ρ sh n lv (st) (σ)) : Ex K G N ρ sh pc lv (.int (iZ x) :: st) (σ) := by
  obtain ⟨p, l, e, R, s, m, args, below, meth, c, cells, slots, Q⟩ := K
  obtain ⟨hx, hb, hml, hown, hts, hlk, hK, hI, hO, hfr, hlo, hce, hsl, hN2⟩ := C
  subst hn; intro hR H locs ls hP hS hl
  refine lv_if_lt hx hb d ht (fun h => kt ?_ hR H locs ls hP hS hl) (fun h => kf ?_ hR H locs ls hP hS hl)
  · rwa [← iZ_0, iZ_lt hx1 (y := 0) (by omega)] at h
  · rwa [← iZ_0, iZ_lt hx1 (y := 0) (by omega)] at h
theorem x_icmp_ge {x y : Int} {off : Int} (tgt : Nat) (n : Nat) (C : Cx K G N ρ own cc nL fr lo) (d : decode cc pc = .ok (.if_icmp .ge off, 3)) (hn : pc + 3 = n) (ht : (pc : Int) + off = (tgt : Int)) (hx1 : -2147483648 ≤ x ∧ x ≤ 2147483647) (hy1 : -2147483648 ≤ y ∧ y ≤ 2147483647) (kt : y ≤ x → Ex K G N ρ sh tgt lv (st) (σ)) (kf : ¬ (y ≤ x) → Ex K G N ρ sh n lv (st) (σ)) : Ex K G N ρ sh pc lv (.int (iZ y) :: .int (iZ x) :: st) (σ) := by
  obtain ⟨p, l, e, R, s, m, args, below, meth, c, cells, slots, Q⟩ := K
  obtain ⟨hx, hb, hml, hown, hts, hlk, hK, hI, hO, hfr, hlo, hce, hsl, hN2⟩ := C
  subst hn; intro hR H locs ls hP hS hl
  refine lv_icmp_ge hx hb d ht (fun h => kt ?_ hR H locs ls hP hS hl) (fun h => kf ?_ hR H locs ls hP hS hl)
  · rwa [iZ_le hy1 hx1] at h
  · rwa [iZ_le hy1 hx1] at h
theorem x_if_ge {x : Int} {off : Int} (tgt : Nat) (n : Nat) (C : Cx K G N ρ own cc nL fr lo) (d : decode cc pc = .ok (.ifCond .ge off, 3)) (hn : pc + 3 = n) (ht : (pc : Int) + off = (tgt : Int)) (hx1 : -2147483648 ≤ x ∧ x ≤ 2147483647) (kt : 0 ≤ x → Ex K G N ρ sh tgt lv (st) (σ)) (kf : ¬ (0 ≤ x) → Ex K G N ρ sh n lv (st) (σ)) : Ex K G N ρ sh pc lv (.int (iZ x) :: st) (σ) := by
  obtain ⟨p, l, e, R, s, m, args, below, meth, c, cells, slots, Q⟩ := K
  obtain ⟨hx, hb, hml, hown, hts, hlk, hK, hI, hO, hfr, hlo, hce, hsl, hN2⟩ := C
  subst hn; intro hR H locs ls hP hS hl
  refine lv_if_ge hx hb d ht (fun h => kt ?_ hR H locs ls hP hS hl) (fun h => kf ?_ hR H locs ls hP hS hl)
  · rwa [← iZ_0, iZ_le (x := 0) (by omega) hx1] at h
  · rwa [← iZ_0, iZ_le (x := 0) (by omega) hx1] at h
theorem x_icmp_gt {x y : Int} {off : Int} (tgt : Nat) (n : Nat) (C : Cx K G N ρ own cc nL fr lo) (d : decode cc pc = .ok (.if_icmp .gt off, 3)) (hn : pc + 3 = n) (ht : (pc : Int) + off = (tgt : Int)) (hx1 : -2147483648 ≤ x ∧ x ≤ 2147483647) (hy1 : -2147483648 ≤ y ∧ y ≤ 2147483647) (kt : y < x → Ex K G N ρ sh tgt lv (st) (σ)) (kf : ¬ (y < x) → Ex K G N ρ sh n lv (st) (σ)) : Ex K G N ρ sh pc lv (.int (iZ y) :: .int (iZ x) :: st) (σ) := by
  obtain ⟨p, l, e, R, s, m, args, below, meth, c, cells, slots, Q⟩ := K
  obtain ⟨hx, hb, hml, hown, hts, hlk, hK, hI, hO, hfr, hlo, hce, hsl, hN2⟩ := C
  subst hn; intro hR H locs ls hP hS hl
  refine lv_icmp_gt hx hb d ht (fun h => kt ?_ hR H locs ls hP hS hl) (fun h => kf ?_ hR H locs ls hP hS hl)
  · rwa [iZ_lt hy1 hx1] at h
  · rwa [iZ_lt hy1 hx1] at h
theorem x_if_gt {x : Int} {off : Int} (tgt : Nat) (n : Nat) (C : Cx K G N ρ own cc nL fr lo) (d : decode cc pc = .ok (.ifCond .gt off, 3)) (hn : pc + 3 = n) (ht : (pc : Int) + off = (tgt : Int)) (hx1 : -2147483648 ≤ x ∧ x ≤ 2147483647) (kt : 0 < x → Ex K G N ρ sh tgt lv (st) (σ)) (kf : ¬ (0 < x) → Ex K G N ρ sh n lv (st) (σ)) : Ex K G N ρ sh pc lv (.int (iZ x) :: st) (σ) := by
  obtain ⟨p, l, e, R, s, m, args, below, meth, c, cells, slots, Q⟩ := K
  obtain ⟨hx, hb, hml, hown, hts, hlk, hK, hI, hO, hfr, hlo, hce, hsl, hN2⟩ := C
  subst hn; intro hR H locs ls hP hS hl
  refine lv_if_gt hx hb d ht (fun h => kt ?_ hR H locs ls hP hS hl) (fun h => kf ?_ hR H locs ls hP hS hl)
  · rwa [← iZ_0, iZ_lt (x := 0) (by omega) hx1] at h
  · rwa [← iZ_0, iZ_lt (x := 0) (by omega) hx1] at h
theorem x_icmp_le {x y : Int} {off : Int} (tgt : Nat) (n : Nat) (C : Cx K G N ρ own cc nL fr lo) (d : decode cc pc = .ok (.if_icmp .le off, 3)) (hn : pc + 3 = n) (ht : (pc : Int) + off = (tgt : Int)) (hx1 : -2147483648 ≤ x ∧ x ≤ 2147483647) (hy1 : -2147483648 ≤ y ∧ y ≤ 2147483647) (kt : x ≤ y → Ex K G N ρ sh tgt lv (st) (σ)) (kf : ¬ (x ≤ y) → Ex K G N ρ sh n lv (st) (σ)) : Ex K G N ρ sh pc lv (.int (iZ y) :: .int (iZ x) :: st) (σ) := by
  obtain ⟨p, l, e, R, s, m, args, below, meth, c, cells, slots, Q⟩ := K
  obtain ⟨hx, hb, hml, hown, hts, hlk, hK, hI, hO, hfr, hlo, hce, hsl, hN2⟩ := C
  subst hn; intro hR H locs ls hP hS hl
  refine lv_icmp_le hx hb d ht (fun h => kt ?_ hR H locs ls hP hS hl) (fun h => kf ?_ hR H locs ls hP hS hl)
  · rwa [iZ_le hx1 hy1] at h
  · rwa [iZ_le hx1 hy1] at h
theorem x_if_le {x : Int} {off : Int} (tgt : Nat) (n : Nat) (C : Cx K G N ρ own cc nL fr lo) (d : decode cc pc = .ok (.ifCond .le off, 3)) (hn : pc + 3 = n) (ht : (pc : Int) + off = (tgt : Int)) (hx1 : -2147483648 ≤ x ∧ x ≤ 2147483647) (kt : x ≤ 0 → Ex K G N ρ sh tgt lv (st) (σ)) (kf : ¬ (x ≤ 0) → Ex K G N ρ sh n lv (st) (σ)) : Ex K G N ρ sh pc lv (.int (iZ x) :: st) (σ) := by
  obtain ⟨p, l, e, R, s, m, args, below, meth, c, cells, slots, Q⟩ := K
  obtain ⟨hx, hb, hml, hown, hts, hlk, hK, hI, hO, hfr, hlo, hce, hsl, hN2⟩ := C
  subst hn; intro hR H locs ls hP hS hl
  refine lv_if_le hx hb d ht (fun h => kt ?_ hR H locs ls hP hS hl) (fun h => kf ?_ hR H locs ls hP hS hl)
  · rwa [← iZ_0, iZ_le hx1 (y := 0) (by omega)] at h
  · rwa [← iZ_0, iZ_le hx1 (y := 0) (by omega)] at h
theorem x_goto {off : Int} (n : Nat) (C : Cx K G N ρ own cc nL fr lo) (d : decode cc pc = .ok (.goto off, 3)) (ht : (pc : Int) + off = (n : Int)) (k : Ex K G N ρ sh n lv (st) (σ)) : Ex K G N ρ sh pc lv (st) (σ) := by
  obtain ⟨p, l, e, R, s, m, args, below, meth, c, cells, slots, Q⟩ := K
  obtain ⟨hx, hb, hml, hown, hts, hlk, hK, hI, hO, hfr, hlo, hce, hsl, hN2⟩ := C
  intro hR H locs ls hP hS hl
  exact lv_goto hx hb d ht (k hR H locs ls hP hS hl)
theorem x_dup {v : Value} (n : Nat) (C : Cx K G N ρ own cc nL fr lo) (d : decode cc pc = .ok (.dup, 1)) (hn : pc + 1 = n) (hv : v.category = 1) (k : Ex K G N ρ sh n lv (v :: v :: st) (σ)) : Ex K G N ρ sh pc lv (v :: st) (σ) := by
  obtain ⟨p, l, e, R, s, m, args, below, meth, c, cells, slots, Q⟩ := K
  obtain ⟨hx, hb, hml, hown, hts, hlk, hK, hI, hO, hfr, hlo, hce, hsl, hN2⟩ := C
  subst hn; intro hR H locs ls hP hS hl
  exact lv_dup hx hb d hv (k hR H locs ls hP hS hl)
theorem x_pop {v : Value} (n : Nat) (C : Cx K G N ρ own cc nL fr lo) (d : decode cc pc = .ok (.pop, 1)) (hn : pc + 1 = n) (hv : v.category = 1) (k : Ex K G N ρ sh n lv (st) (σ)) : Ex K G N ρ sh pc lv (v :: st) (σ) := by
  obtain ⟨p, l, e, R, s, m, args, below, meth, c, cells, slots, Q⟩ := K
  obtain ⟨hx, hb, hml, hown, hts, hlk, hK, hI, hO, hfr, hlo, hce, hsl, hN2⟩ := C
  subst hn; intro hR H locs ls hP hS hl
  exact lv_pop hx hb d hv (k hR H locs ls hP hS hl)
end ROWS
