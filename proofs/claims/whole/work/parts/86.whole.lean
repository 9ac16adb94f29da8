/-! from the law's entry to its loop -/
theorem law_body {K : Mk} {G : Gt} {ρ0 : Nat → Nat} {b L : Nat} {xs : Nat → Int32} (hL : L ≤ 3072) (A : AL K G "FirstSeenLaw" code 4 2048 84000 (TL b L xs) 0 ρ0 0 ρ0 sh00 600000 7302250) : Ex K G 0 ρ0 sh00 0 [some (.ref b), none, none, none] [] (fun _ _ => 0) := by
  replace A := AL_le (a' := 3000 + 1) (b' := 200000 + 12) A (by omega) (by omega)
  refine x_new (ci := 11) (nF := 12) (fds := [2, 2, 0, 2, 2, 2, 0, 2, 2, 0, 0, 0]) (a := 3000) (b := 200000) (lvf := fun _ => [some (.ref b), none, none, none]) (stf := fun _ => []) tyX11 3 A (by decide) rfl inT11 tyX11_ok tb_1_21 tb_1_22 tb_1_1 (by decide +kernel) rfl (by decide) (fun j => ⟨rfl, rfl⟩) (fun ρ' h => ⟨rfl, rfl⟩) dL_law_0 rfl (fun K ρ hKl hρ A => ?_)
  show Ex K G 1 ρ (su sh00 0 (cO 11 [2, 2, 0, 2, 2, 2, 0, 2, 2, 0, 0, 0])) 3 [some (.ref b), none, none, none] [.ref (ρ 0)] (fun _ _ => 0)
  refine x_dup 4 A.1 dL_law_3 rfl rfl ?_
  replace A := AL_le (a' := 2000 + 53) (b' := 150000 + 1300) A (by omega) (by omega)
  refine x_callIA (a := 2000) (b := 150000) (lvf := fun _ => [some (.ref b), none, none, none]) (stf := fun ρ => [.ref (ρ 0)]) 7 A dL_law_4 rfl (c_X11_init A.2.2.2.2.2 rfl (fun a _ _ i => ⟨rfl, rfl⟩)) tb_1_23 tb_1_24 tb_1_1 tb_1_25 rfl (by decide +kernel) (na := 0) rfl ⟨Nat.le_of_ble_eq_true rfl, Nat.le_of_ble_eq_true rfl⟩ rfl (Nat.le_of_ble_eq_true rfl) rfl (fun ρ' h => ⟨rfl, by simp only [h 0 (by omega)]⟩) (fun K r ρ N' sh' σ1 hKl hq hρ hNN A hR1 => ?_)
  obtain ⟨rfl, rfl, rfl, f1, f28, f06, f32, f322, f33, fs⟩ := hq
  show Ex K G 54 ρ (shA44 (su sh00 0 (cO 11 [2, 2, 0, 2, 2, 2, 0, 2, 2, 0, 0, 0]))) 7 [some (.ref b), none, none, none] [.ref (ρ 0)] σ1
  refine x_astore_n1 8 A.1 dL_law_7 rfl rfl ?_
  have f0 : ∀ a b, 54 ≤ a → σ1 a b = 0 := fun a b h => f1 a b (by omega) (by omega) (by omega) (by omega) (by omega) (by omega) (by omega)
  replace A := AL_le (a' := 1900 + 1) (b' := 120000 + 56) A (by omega) (by omega)
  refine x_new (ci := 12) (nF := 56) (fds := [0, 2, 2, 0, 0, 2, 0, 2, 0, 2, 2, 2, 2, 0, 2, 2, 2, 2, 0, 0, 0, 0, 0, 0, 0, 0, 0, 0, 0, 0, 1, 0, 0, 0, 2, 2, 2, 2, 2, 2, 2, 0, 0, 0, 2, 2, 2, 2, 0, 0, 0, 0, 2, 2, 2, 2]) (a := 1900) (b := 120000) (lvf := fun ρ => [some (.ref b), some (.ref (ρ 0)), none, none]) (stf := fun _ => []) tyX12 11 A (by decide) rfl inT12 tyX12_ok tb_4_125 tb_4_126 tb_1_20 (by decide +kernel) rfl (by decide +kernel) (fun j => ⟨f0 54 j (by omega), f0 1054 j (by omega)⟩) (fun ρ' h => ⟨by simp only [h 0 (by omega)], rfl⟩) dL_law_8 rfl (fun K ρ hKl hρ A => ?_)
  show Ex K G 55 ρ shB 11 [some (.ref b), some (.ref (ρ 0)), none, none] [.ref (ρ 54)] σ1
  replace A : AL K G "FirstSeenLaw" code 4 2048 84000 (TL b L xs) 0 ρ0 55 ρ shB 1900 120000 := A
  refine x_dup 12 A.1 dL_law_11 rfl rfl ?_
  replace A := AL_le (a' := 1800 + 27) (b' := 110000 + 3575) A (by omega) (by omega)
  refine x_callIA (a := 1800) (b := 110000) (lvf := fun ρ => [some (.ref b), some (.ref (ρ 0)), none, none]) (stf := fun ρ => [.ref (ρ 54)]) 15 A dL_law_12 rfl (c_X12_init (N := 55) (t := 54) A.2.2.2.2.2 (by decide) (by decide) rfl (fun a h1 _ i => ⟨f0 a i (by omega), f0 (a + 1000) i (by omega)⟩)) tb_4_127 tb_4_128 tb_1_20 tb_4_129 rfl (by decide +kernel) (na := 0) rfl ⟨Nat.le_of_ble_eq_true rfl, Nat.le_of_ble_eq_true rfl⟩ rfl (Nat.le_of_ble_eq_true rfl) rfl (fun ρ' h => ⟨by simp only [h 0 (by omega)], by simp only [h 54 (by omega)]⟩) (fun K r ρ N' sh' σ2 hKl hq hρ hNN A hR2 => ?_)
  obtain ⟨rfl, rfl, rfl, g, gt⟩ := hq
  show Ex K G 82 ρ shF 15 [some (.ref b), some (.ref (ρ 0)), none, none] [.ref (ρ 54)] σ2
  replace A : AL K G "FirstSeenLaw" code 4 2048 84000 (TL b L xs) 0 ρ0 82 ρ shF 1800 110000 := A
  refine x_astore_n2 16 A.1 dL_law_15 rfl rfl ?_
  refine x_iconst 17 A.1 dL_law_16 rfl ?_
  refine x_istore_n3 18 A.1 dL_law_17 rfl rfl ?_
  refine Ex_pi A ?_
  exact Ex_pq (tc := 1) <| law_loop hL 512 0 K (fun k => ρ (pi k)) (fun _ => ([1], [0], [23, -2, -13])) 1 cl0 (σπ σ2) (Nat.zero_le _) (by omega) (AL_pi (AL_le (a' := 3 * 512) (b' := 204 * 512) A (by omega) (by omega))) (RR_0 f1 f28 f06 f32 f322 f33 fs g gt)
theorem whole_start {p : Program} {e : Env} {s : State} {m : MethodId} {below : List Frame} {meth : Method} {c : Code} (l : Launch) (hflags : l.flags = flags0) {b L : Nat} {xs : Nat → Int32} (hL : L ≤ 3072) (C0 : lw_At p s m meth c b L xs) : W p l e room_1 s m #[Value.ref b] below meth c s.heap [] 0 0 (lw_Z below #[Value.ref b] s) (entryFrame m ([Value.ref b] : List Value).toArray 4) := by
  obtain ⟨hx, hb, hr, hml, hown, hts, hX, hbl, hlocks, hgv⟩ := C0
  have hA : ∀ a : Nat, a < s.heap.size → ¬ AX 0 (fun _ => 0) s.heap.size a := by
    rintro a ha (⟨k, hk, _⟩ | h)
    · omega
    · omega
  obtain ⟨D, dA, hK⟩ := law_K hts
  obtain ⟨ga, hO⟩ := law_RO (A := AX 0 (fun _ => 0) s.heap.size) hts hgv hA
  have hl := lv_entry ([.ref b]) (n := 4) (Nat.le_of_ble_eq_true rfl)
  rw [lg_entry_eq]
  have hI : Inj 0 (fun _ => 0) := fun i j hi _ _ => absurd hi (by omega)
  have key := law_body (K := (p, l, e, room_1, s, m, #[Value.ref b], below, meth, c, 0, 0, lw_Z below #[Value.ref b] s)) (G := (D, dA, ga)) (ρ0 := fun _ => 0) (b := b) (L := L) (xs := xs) hL ⟨⟨hx, hb, hml, hown, fun w hw => hts w (TB_in hw), hlocks, hK, hI, hO, Nat.le_of_ble_eq_true rfl, Nat.le_of_ble_eq_true rfl, Nat.zero_le _, Nat.zero_le _, Nat.zero_le _⟩, ⟨rfl, rfl, rfl, hr, hX, hbl⟩, TL_kb, ⟨Nat.le_of_ble_eq_true rfl, Nat.le_of_ble_eq_true rfl⟩, Gr_refl (Nat.zero_le _) hI, fun k hk => absurd hk (by omega)⟩
  exact key (fun r i _ => show -2147483648 ≤ (0 : Int) ∧ (0 : Int) ≤ 2147483647 by omega) s.heap [] _ (fun k q h => by cases h) va_S.rf hl
-- ===== YOUR PART ENDS =====
set_option maxHeartbeats 4000000 in
theorem lw_walk (l : Launch) (hflags : l.flags = flags0) (b : Addr) (xs : List Int32) : MetFree l x (headSpec (Jvm.Cond.code x code maxLocals ret :: tables_1) room_1) (lw_P b xs) (fun _ _ _ _ _ => True) lw_Q := by
  refine MetFree.of_bodyS (code := code) (maxLocals := maxLocals) (ret := ret) (by decide) ?_ ?_
  · intro args s m h hn
    obtain ⟨meth, c, h1, h2, h3, h4, h5, h6, -, -⟩ := Cond.code_spec hn (atoms_spec (ws := Jvm.Cond.code x code maxLocals ret :: tables_1) h _ List.mem_cons_self)
    exact ⟨meth, c, h1, h2, h3, h4, h5, h6⟩
  · intro p e s m args below meth c s₁ B hml0 hP _
    obtain ⟨rfl, hx, hbd, hgv⟩ := hP
    obtain ⟨scr, harrAt, hlist, hof, hsmall⟩ := hx
    obtain ⟨hcb, hkn, -, -⟩ := State.arrayAt?_spec harrAt
    have hown : s.vm.findClass R_law = some m.cls := findClass_of_methodNamed B.named
    have hts0 : ∀ c ∈ (Jvm.Cond.code x code maxLocals ret :: tables_1), c.before #[Value.ref b] s = true := atoms_spec (ws := Jvm.Cond.code x code maxLocals ret :: tables_1) B.pre
    have hts : ∀ w ∈ lw_tbl, w.before #[Value.ref b] s = true := k2_hts_sels lw_privs (fun w hw => hts0 w (List.mem_cons_of_mem _ hw)) lw_privs_ok
    have hml : c.maxLocals = 4 := B.maxLocals_eq (hts0 _ List.mem_cons_self)
    have X₀ : Stand p l e room_1 s m #[Value.ref b] below meth c s₁ [] 0 0 := Stand.of_body B
    have hh0 : s₁.heap = s.heap := by rw [B.state]; rfl
    have hsz : scr.slots.size = xs.length := by rw [← Array.length_toList, hlist, List.length_map]
    have hval : ∀ j : Nat, j < xs.length → scr.slots[j]? = some (.int (xs.getD j 0)) := fun j hj => by
      rw [← Array.getElem?_toList, hlist]
      simp [hj]
    have hbl : b < s.heap.size := (Array.getElem?_eq_some_iff.mp hcb).1
    have hX : va_X b xs.length (fun j => xs.getD j 0) s s.heap := ⟨scr, hcb, hof, hkn, hsz, hval⟩
    have K : W p l e room_1 s m #[Value.ref b] below meth c s₁.heap [] 0 0 (lw_Z below #[Value.ref b] s) (entryFrame m ([Value.ref b] : List Value).toArray 4) := by
      rw [hh0]
      exact whole_start l hflags hbd ⟨B.exec, B.bytes, B.returns, hml, hown, hts, hX, hbl, B.notSynchronized, hgv⟩
    obtain ⟨t, a1, o, b1, b2, b3⟩ := K s₁ rfl X₀
    exact ⟨t, o, a1, b1, b2, b3⟩
theorem lw_pre_spec {args : Array Value} {s : State} (h : (Jvm.Cond.and given_1 narrow_1).before args s = true) (hr : rest_1_c.before args s = true) : ∃ (b : Addr) (xs : List Int32), lw_P b xs args s := by
  have hs := flat_of_before _ h
  have hq := flat_of_before _ hr
  have hc : (Cond.count 1).before args s = true := hs _ (by decide +kernel)
  have harr : (Cond.arrayOf (.arg 0) .int).before args s = true := hs _ (by decide +kernel)
  have hle : (Cond.le (.length (.arg 0)) (.int 3072)).before args s = true := hs _ (by decide +kernel)
  have hlen : (Cond.isInt (.length (.arg 0))).before args s = true := hq _ (by decide +kernel)
  have hall : (Cond.all (.arg 0) (.isInt (.elem (.arg 0) (.index 0)))).before args s = true := hq _ (by decide +kernel)
  obtain ⟨b, xs, hb, hx⟩ := State.ints_of_pre rfl harr hlen hall
  have hsm : xs.length < 2 ^ 31 := hx.choose_spec.2.2.2
  have hev : (Term.length (.arg 0)).eval args s none [] s = some (.int xs.length.toInt32) := hx.length_eval hb
  have hv := Cond.le_ints hev (show (Term.int 3072).eval args s none [] s = some (.int 3072) from rfl)
  have hd : xs.length.toInt32 ≤ 3072 := by
    simpa [Cond.before, Cond.holds, hv] using hle
  have hN : xs.length ≤ 3072 := (Int32.ofNat_le_ofNat hsm (by decide)).mp (show Int32.ofNat xs.length ≤ Int32.ofNat 3072 from hd)
  exact ⟨b, xs, Cond.one_arg hc (show args[0]? = some (.ref b) from hb), hx, hN, h⟩
theorem lw_comes (l : Launch) (hflags : l.flags = flags0) : Comes l x (Jvm.Cond.code x code maxLocals ret :: tables_1) room_1 (fun tb e args s => Calls_1 tb e args s ∧ rest_1 tb e args s ∧ Pre_1 tb e args s)
    (fun _ _ args s o t => lw_Q args s o t) := by
  intro p e ha hc hk s m args below hf hfit hheap happ hpre
  obtain ⟨b, xs, hP⟩ := lw_pre_spec hpre.2.2 hpre.2.1
  obtain ⟨k, o, h1, h2, h3, hQ⟩ := lw_walk l hflags b xs p e ha hc hk s m args below hf ((Spec.applies_iff_loose hf).mp happ).1 hP trivial
  exact ⟨k, o, h1, h2, h3, hQ⟩
theorem lw_frame {s t : State} {o : Outcome} {args : Array Value} (h : Framed s o t [] 600000 7302250) :
    Framed s o t (fieldLocs frame_1_writes args s ++ arrayLocs frame_1_arrays args s ++ staticLocs frame_1_statics s) 600000 7302250 := h
theorem lw_limb (L : Cond) (hL : ∀ (args : Array Value) (s t : State), L.after args s (.returned (some (.int 1))) t = true) :
    ArmFor flags0 classFile x code maxLocals ret World_1 tables_1 room_1 Calls_1 rest_1 Pre_1
      (fun tb e a s o t => postC L tb e a s o t ∧ Framed s o t (fieldLocs frame_1_writes a s ++ arrayLocs frame_1_arrays a s ++ staticLocs frame_1_statics s) 600000 7302250) := by
  intro l hflags _ _ p e ha hc hk s m args below hf hfit hheap happ hpre
  obtain ⟨k, o, h1, h2, h3, rfl, hF⟩ := lw_comes l hflags p e ha hc hk s m args below hf hfit hheap happ hpre
  exact ⟨k, _, h1, h2, h3, hL args s _, lw_frame hF⟩
theorem i_vc : Claimed_1_1 ∧ Claimed_1_2 := ⟨lw_limb limb_1_1 (fun args s t => by simp [limb_1_1, Cond.after, Cond.holds, Cond.value]), lw_limb limb_1_2 (fun args s t => Cond.after_iff.mpr (by
  first | (rw [show limb_1_2 = Cond.eq .result (.int 1) from rfl, Cond.eq_ints (x := 1) (y := 1) rfl rfl]; simp; done) | (simp [limb_1_2, Cond.value, Term.eval]; done)))⟩