/-! what the start gives: the tables as the contracts want them -/
theorem LT_1 {w : Cond} (i : Nat) (h : tables_1_1[i]? = some w) : w ∈ lw_tbl := List.mem_append_right _ (List.mem_append_left _ (List.mem_of_getElem? h))
theorem LT_2 {w : Cond} (i : Nat) (h : tables_1_2[i]? = some w) : w ∈ lw_tbl := List.mem_append_right _ (List.mem_append_right _ (List.mem_append_left _ (List.mem_of_getElem? h)))
theorem LT_3 {w : Cond} (i : Nat) (h : tables_1_3[i]? = some w) : w ∈ lw_tbl := List.mem_append_right _ (List.mem_append_right _ (List.mem_append_right _ (List.mem_append_left _ (List.mem_of_getElem? h))))
theorem LT_4 {w : Cond} (i : Nat) (h : tables_1_4[i]? = some w) : w ∈ lw_tbl := List.mem_append_right _ (List.mem_append_right _ (List.mem_append_right _ (List.mem_append_right _ (List.mem_append_left _ (List.mem_of_getElem? h)))))
theorem LT_5 {w : Cond} (i : Nat) (h : tables_1_5[i]? = some w) : w ∈ lw_tbl := List.mem_append_right _ (List.mem_append_right _ (List.mem_append_right _ (List.mem_append_right _ (List.mem_append_right _ (List.mem_append_left _ (List.mem_of_getElem? h))))))
theorem LT_6 {w : Cond} (i : Nat) (h : tables_1_6[i]? = some w) : w ∈ lw_tbl := List.mem_append_right _ (List.mem_append_right _ (List.mem_append_right _ (List.mem_append_right _ (List.mem_append_right _ (List.mem_append_right _ (List.mem_append_left _ (List.mem_of_getElem? h)))))))
theorem str_in0 : ∀ j : Nat, j < 38 → Cond.eq (.elem (.field (.string "FirstSeen" 48) "java/lang/String" "value" "[B") (.int (Int32.ofNat j))) (.int ((stB.getD 0 []).getD j 0)) ∈ flatC (Jvm.Cond.and given_1 narrow_1) := by decide +kernel
theorem str_in1 : ∀ j : Nat, j < 58 → Cond.eq (.elem (.field (.string "FirstSeen$Reader" 98) "java/lang/String" "value" "[B") (.int (Int32.ofNat j))) (.int ((stB.getD 1 []).getD j 0)) ∈ flatC (Jvm.Cond.and given_1 narrow_1) := by decide +kernel
section LAWS
variable {args : Array Value} {s : State}
theorem law_K (hts : ∀ w ∈ lw_tbl, w.before args s = true) : ∃ (D : va_G) (dA : Nat → ClassId), va_K D vwC (tyA dA) s := by
  obtain ⟨c0, i0, k0⟩ := u_known (C := RX0) (T := TX0) (N := 0) (n := 0) (fun w h => hts w (TB_in h)) inT0 (hts (.instantiable RX0 0) (LT_1 125 rfl))
  obtain ⟨c1, i1, k1⟩ := u_known (C := RX1) (T := TX1) (N := 0) (n := 0) (fun w h => hts w (TB_in h)) inT1 (hts (.instantiable RX1 0) (LT_1 132 rfl))
  obtain ⟨c2, i2, k2⟩ := u_known (C := RX2) (T := TX2) (N := 0) (n := 0) (fun w h => hts w (TB_in h)) inT2 (hts (.instantiable RX2 0) (LT_1 139 rfl))
  obtain ⟨c3, i3, k3⟩ := u_known (C := RX3) (T := TX3) (N := 14) (n := 14) (fun w h => hts w (TB_in h)) inT3 (hts (.instantiable RX3 14) (LT_2 102 rfl))
  obtain ⟨c4, i4, k4⟩ := u_known (C := RX4) (T := TX4) (N := 0) (n := 0) (fun w h => hts w (TB_in h)) inT4 (hts (.instantiable RX4 0) (LT_1 118 rfl))
  obtain ⟨c5, i5, k5⟩ := u_known (C := RX5) (T := TX5) (N := 8) (n := 8) (fun w h => hts w (TB_in h)) inT5 (hts (.instantiable RX5 8) (LT_1 146 rfl))
  obtain ⟨c6, i6, k6⟩ := u_known (C := RX6) (T := TX6) (N := 3) (n := 3) (fun w h => hts w (TB_in h)) inT6 (hts (.instantiable RX6 3) (LT_2 155 rfl))
  obtain ⟨c7, i7, k7⟩ := u_known (C := RX7) (T := TX7) (N := 4) (n := 4) (fun w h => hts w (TB_in h)) inT7 (hts (.instantiable RX7 4) (LT_2 66 rfl))
  obtain ⟨c8, i8, k8⟩ := u_known (C := RX8) (T := TX8) (N := 0) (n := 0) (fun w h => hts w (TB_in h)) inT8 (hts (.instantiable RX8 0) (LT_1 104 rfl))
  obtain ⟨c9, i9, k9⟩ := u_known (C := RX9) (T := TX9) (N := 13) (n := 13) (fun w h => hts w (TB_in h)) inT9 (hts (.instantiable RX9 13) (LT_1 30 rfl))
  obtain ⟨c10, i10, k10⟩ := u_known (C := RX10) (T := TX10) (N := 0) (n := 0) (fun w h => hts w (TB_in h)) inT10 (hts (.instantiable RX10 0) (LT_1 111 rfl))
  obtain ⟨c11, i11, k11⟩ := u_known (C := RX11) (T := TX11) (N := 12) (n := 12) (fun w h => hts w (TB_in h)) inT11 (hts (.instantiable RX11 12) (LT_1 22 rfl))
  obtain ⟨c12, i12, k12⟩ := u_known (C := RX12) (T := TX12) (N := 56) (n := 56) (fun w h => hts w (TB_in h)) inT12 (hts (.instantiable RX12 56) (LT_4 126 rfl))
  obtain ⟨a0, ka0, q0, x0, y0, z0⟩ := Cond.arrayClass_spec (args := args) (first := s) (o := none) (s := s) (idx := []) (type := .int) (hts (.arrayClass .int) (LT_1 101 rfl))
  obtain ⟨a1, ka1, q1, x1, y1, z1⟩ := Cond.arrayClass_spec (args := args) (first := s) (o := none) (s := s) (idx := []) (type := .long) (hts (.arrayClass .long) (LT_5 63 rfl))
  obtain ⟨a2, ka2, q2, x2, y2, z2⟩ := Cond.arrayClass_spec (args := args) (first := s) (o := none) (s := s) (idx := []) (type := .boolean) (hts (.arrayClass .boolean) (LT_5 64 rfl))
  obtain ⟨q3, a3, ka3, f3, g3, y3, z3, x3⟩ := Cond.arrayOver_spec (args := args) (first := s) (o := none) (s := s) (idx := []) (n := "FirstSeen$Thing") (hts (.arrayOver (.object "FirstSeen$Thing")) (LT_1 103 rfl))
  obtain ⟨q4, a4, ka4, f4, g4, y4, z4, x4⟩ := Cond.arrayOver_spec (args := args) (first := s) (o := none) (s := s) (idx := []) (n := "FirstSeen$Text") (hts (.arrayOver (.object "FirstSeen$Text")) (LT_1 232 rfl))
  obtain ⟨q5, a5, ka5, f5, g5, y5, z5, x5⟩ := Cond.arrayOver_spec (args := args) (first := s) (o := none) (s := s) (idx := []) (n := "FirstSeen$Sheet") (hts (.arrayOver (.object "FirstSeen$Sheet")) (LT_2 154 rfl))
  refine ⟨⟨fun k => ([c0, c1, c2, c3, c4, c5, c6, c7, c8, c9, c10, c11, c12] : List ClassId).getD k c0, fun k => ([i0, i1, i2, i3, i4, i5, i6, i7, i8, i9, i10, i11, i12] : List (Nat → Nat)).getD k i0⟩, fun k => ([a0, a1, a2, a3, a4, a5] : List ClassId).getD k a0, ?_, ?_⟩
  · intro k q hq
    match k, hq with
    | 0, hq => cases hq; exact k0
    | 1, hq => cases hq; exact k1
    | 2, hq => cases hq; exact k2
    | 3, hq => cases hq; exact k3
    | 4, hq => cases hq; exact k4
    | 5, hq => cases hq; exact k5
    | 6, hq => cases hq; exact k6
    | 7, hq => cases hq; exact k7
    | 8, hq => cases hq; exact k8
    | 9, hq => cases hq; exact k9
    | 10, hq => cases hq; exact k10
    | 11, hq => cases hq; exact k11
    | 12, hq => cases hq; exact k12
    | k + 13, hq => cases hq
  · intro k q hq
    match k, hq with
    | 0, hq => cases hq; exact ⟨fun N z => ⟨(fun k h => by cases h), ka0, y0, q0, z0⟩, x0⟩
    | 1, hq => cases hq; exact ⟨fun N z => ⟨(fun k h => by cases h), ka1, y1, q1, z1⟩, x1⟩
    | 2, hq => cases hq; exact ⟨fun N z => ⟨(fun k h => by cases h), ka2, y2, q2, z2⟩, x2⟩
    | 3, hq => cases hq; exact ⟨fun N z => ⟨(fun k h => by cases h), ka3, y3, q3, z3⟩, ka3, q3, y3, z3, f3, x3⟩
    | 4, hq => cases hq; exact ⟨fun N z => ⟨(fun k h => by cases h), ka4, y4, q4, z4⟩, ka4, q4, y4, z4, f4, x4⟩
    | 5, hq => cases hq; exact ⟨fun N z => ⟨(fun k h => by cases h), ka5, y5, q5, z5⟩, ka5, q5, y5, z5, f5, x5⟩
    | k + 6, hq => cases hq
theorem nw_in : ∀ w ∈ NW, w ∈ lw_tbl := by
  unfold NW
  simp only [List.forall_mem_cons]
  exact ⟨LT_1 31 rfl, LT_1 105 rfl, LT_1 112 rfl, LT_1 115 rfl, LT_1 119 rfl, LT_1 122 rfl, LT_1 126 rfl, LT_1 129 rfl, LT_1 133 rfl, LT_1 136 rfl, LT_1 140 rfl, LT_1 143 rfl, LT_1 147 rfl, LT_2 75 rfl, LT_2 156 rfl, LT_3 2 rfl, LT_3 71 rfl, LT_3 73 rfl, LT_3 75 rfl, LT_3 92 rfl, LT_6 131 rfl, LT_6 132 rfl, LT_6 133 rfl, LT_6 134 rfl, LT_6 135 rfl, LT_6 136 rfl, LT_6 137 rfl, fun _ h => absurd h List.not_mem_nil⟩
theorem nw_on : ∀ w ∈ NW, w.onTables = true := by decide +kernel
theorem nc_in : ∀ q ∈ NC, Cond.not (.castable q.1 q.2) ∈ flatC (Jvm.Cond.and given_1 narrow_1) := by decide +kernel
theorem law_RO {A : Nat → Prop} (hts : ∀ w ∈ lw_tbl, w.before args s = true) (hg : (Jvm.Cond.and given_1 narrow_1).before args s = true) (hA : ∀ a : Nat, a < s.heap.size → ¬ A a) : ∃ ga : Nat → Nat, RO ga A s s.heap := by
  have hs := flat_of_before _ hg
  obtain ⟨tMOST, eMOST, TMOST⟩ : ∃ t : Nat, (Term.static "FirstSeen" "MOST" "[I").eval args s none [] s = some (.ref t) ∧ va_T .int t 8 fMOST A s s.heap := by
    refine va_Tof (by decide) (hs _ (by decide +kernel)) (va_eqt (hs _ (by decide +kernel))) (fun j hj => ?_) hA
    match j, hj with
    | 0, _ => exact va_eqt (hs _ (by decide +kernel))
    | 1, _ => exact va_eqt (hs _ (by decide +kernel))
    | 2, _ => exact va_eqt (hs _ (by decide +kernel))
    | 3, _ => exact va_eqt (hs _ (by decide +kernel))
    | 4, _ => exact va_eqt (hs _ (by decide +kernel))
    | 5, _ => exact va_eqt (hs _ (by decide +kernel))
    | 6, _ => exact va_eqt (hs _ (by decide +kernel))
    | 7, _ => exact va_eqt (hs _ (by decide +kernel))
  have ZMOST := va_Zref (A := A) (hts (.laysStatic "FirstSeen" "MOST" "[I") (LT_2 229 rfl)) (hts (.initialized "FirstSeen") (TB_in tb_1_1)) eMOST hA
  obtain ⟨tDOWN, eDOWN, TDOWN⟩ : ∃ t : Nat, (Term.static "FirstSeen" "DOWN" "[I").eval args s none [] s = some (.ref t) ∧ va_T .int t 4 fDOWN A s s.heap := by
    refine va_Tof (by decide) (hs _ (by decide +kernel)) (va_eqt (hs _ (by decide +kernel))) (fun j hj => ?_) hA
    match j, hj with
    | 0, _ => exact va_eqt (hs _ (by decide +kernel))
    | 1, _ => exact va_eqt (hs _ (by decide +kernel))
    | 2, _ => exact va_eqt (hs _ (by decide +kernel))
    | 3, _ => exact va_eqt (hs _ (by decide +kernel))
  have ZDOWN := va_Zref (A := A) (hts (.laysStatic "FirstSeen" "DOWN" "[I") (LT_3 72 rfl)) (hts (.initialized "FirstSeen") (TB_in tb_1_1)) eDOWN hA
  obtain ⟨tACROSS, eACROSS, TACROSS⟩ : ∃ t : Nat, (Term.static "FirstSeen" "ACROSS" "[I").eval args s none [] s = some (.ref t) ∧ va_T .int t 4 fACR A s s.heap := by
    refine va_Tof (by decide) (hs _ (by decide +kernel)) (va_eqt (hs _ (by decide +kernel))) (fun j hj => ?_) hA
    match j, hj with
    | 0, _ => exact va_eqt (hs _ (by decide +kernel))
    | 1, _ => exact va_eqt (hs _ (by decide +kernel))
    | 2, _ => exact va_eqt (hs _ (by decide +kernel))
    | 3, _ => exact va_eqt (hs _ (by decide +kernel))
  have ZACROSS := va_Zref (A := A) (hts (.laysStatic "FirstSeen" "ACROSS" "[I") (LT_3 74 rfl)) (hts (.initialized "FirstSeen") (TB_in tb_1_1)) eACROSS hA
  have ZC := va_Zof (A := A) (hts (.laysStatic "java/lang/String" "COMPACT_STRINGS" "Z") (LT_1 188 rfl)) (hts (.initialized "java/lang/String") (TB_in tb_1_10)) (va_eqi (z := 1) (hs _ (by decide +kernel))) hA
  have ZQ := va_Zqof (A := A) (hts (.laysStatic "jdk/internal/util/Preconditions" "SIOOBE_FORMATTER" "Ljava/util/function/BiFunction;") (LT_1 204 rfl)) (hts (.initialized "jdk/internal/util/Preconditions") (TB_in tb_1_12)) (hs _ (by decide +kernel)) hA
  obtain ⟨adK, adV, S, eS⟩ := vk_Sof (args := args) (s := s) (N := 2) (tm := fun i => if i = 0 then .string "FirstSeen" 48 else .string "FirstSeen$Reader" 98) (len := stL) (byt := stB) (A := A) (by decide) (fun i hi => by
      match i, hi with
      | 0, _ => exact hs _ (by decide +kernel)
      | 1, _ => exact hs _ (by decide +kernel)) (fun i hi => by
      match i, hi with
      | 0, _ => exact hs _ (by decide +kernel)
      | 1, _ => exact hs _ (by decide +kernel)) (fun i hi => by
      match i, hi with
      | 0, _ => exact hs _ (by decide +kernel)
      | 1, _ => exact hs _ (by decide +kernel)) (fun i hi => by
      match i, hi with
      | 0, _ => exact hs _ (by decide +kernel)
      | 1, _ => exact hs _ (by decide +kernel)) (fun i hi j hj => by
      match i, hi with
      | 0, _ => exact hs _ (str_in0 j hj)
      | 1, _ => exact hs _ (str_in1 j hj)) (fun i j hi hj hij => by
      match i, hi, j, hj with
      | 0, _, 0, _ => exact absurd rfl hij
      | 0, _, 1, _ => exact Or.inl (hs _ (by decide +kernel))
      | 1, _, 0, _ => exact Or.inr (hs _ (by decide +kernel))
      | 1, _, 1, _ => exact absurd rfl hij) hA
  refine ⟨fun n => if n < 10 then (if n = 0 then tMOST else if n = 1 then tDOWN else tACROSS) else if n < 20 then adK (n - 10) else adV (n - 20), ⟨ZMOST, TMOST⟩, ⟨ZDOWN, TDOWN⟩, ⟨ZACROSS, TACROSS⟩, ZC, ZQ, ⟨fun i hi => ?_, fun i j hi hj => ?_⟩, fun w hw => va_Nw.of (nw_on w hw) (hts w (nw_in w hw)), ?_, ?_, fun q hq => va_Nc.of (hs _ (nc_in q hq)), ?_, ?_, ?_⟩
  · match i, hi with
    | 0, _ => exact S.1 0 (by decide)
    | 1, _ => exact S.1 1 (by decide)
  · match i, hi, j, hj with
    | 0, _, 0, _ => exact S.2 0 0 (by decide) (by decide)
    | 0, _, 1, _ => exact S.2 0 1 (by decide) (by decide)
    | 1, _, 0, _ => exact S.2 1 0 (by decide) (by decide)
    | 1, _, 1, _ => exact S.2 1 1 (by decide) (by decide)
  · exact vk_R.of (hts _ (LT_1 178 rfl)) (eS 0 (by decide))
  · exact vk_R.of (hts _ (LT_2 8 rfl)) (eS 1 (by decide))
  · exact va_AO.of (A := args) (hts (.arrayOver (.object "FirstSeen$Thing")) (LT_1 103 rfl))
  · exact va_AO.of (A := args) (hts (.arrayOver (.object "FirstSeen$Text")) (LT_1 232 rfl))
  · exact va_AO.of (A := args) (hts (.arrayOver (.object "FirstSeen$Sheet")) (LT_2 154 rfl))
end LAWS