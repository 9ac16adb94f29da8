section ROWS
variable {K : Mk} {G : Gt} {tc : Nat} {cl : Nat → Nat} {ρ : Nat → Nat} {own : String} {cc : ByteArray} {nL fr lo : Nat} {pc n : Nat} {lv : List (Option Value)} {st : List Value} {σ : Sig}
theorem whereF_n {k h n m : Int} (hk : ¬ k = 1 ∧ ¬ k = 3) : whereF k h n m = h := by unfold whereF; rw [if_neg (by omega)]
theorem whereF_1 {h n m : Int} : whereF 1 h n m = h / 6 * 6 + (h % 6 + m / (n + 1)) % 6 := by unfold whereF; rw [if_pos (by omega)]
theorem whereF_3 {h n m : Int} : whereF 3 h n m = if m % 2 = 1 then h else h / 6 * 6 + (h % 6 + m / (n + 1)) % 6 := by
  unfold whereF
  by_cases hm : m % 2 = 1
  · rw [if_neg (by omega), if_pos hm]
  · rw [if_pos (by omega), if_neg hm]
theorem x_cellIn (n : Nat) (C : Cx K G (NN tc) ρ own cc nL fr lo) {ix : Nat} (d : decode cc pc = .ok (.invokevirtual ix, 3)) (hn : pc + 3 = n) (w1 : Cond.methodLink own ix yX8_cellIn ∈ TB) {kd : Nat} (hk : kd < 6) {m h q : Int} (hm : 0 ≤ m ∧ m ≤ 23) (hh : 0 ≤ h ∧ h ≤ 35) (hq : 0 ≤ q ∧ q ≤ 9) (hro : 3 ≤ fr ∧ 80 ≤ lo) (h8 : (st.map fun v => v.category).sum ≤ 8) (hlv : lv.length = nL) (k : Ex K G (NN tc) ρ (shp tc cl) n lv (.int (iZ (whereF (kd : Int) h q m)) :: st) σ) : Ex K G (NN tc) ρ (shp tc cl) pc lv (.int (iZ q) :: .int (iZ h) :: .int (iZ m) :: .ref (ρ (22 + kd)) :: st) σ := by
  match kd, hk with
  | 0, _ => exact x_callOe (x := yX8_cellIn) (y := yX8_cellIn) n C d hn (c_X8_cellIn hm hh hq) rfl (lt79 (by decide)) rfl w1 tb_3_26 tb_3_24 tb_3_25 tb_3_24 tb_3_37 tb_1_3 tb_3_37 (na := 3) (by decide +kernel) rfl ⟨by omega, by omega⟩ rfl h8 hlv (fun hr => by have e : whereF ((0 : Nat) : Int) h q m = _ := whereF_n (by omega); rw [e] at k; exact k)
  | 1, _ => exact x_callOe (x := yX8_cellIn) (y := yX10_cellIn) n C d hn (c_X10_cellIn hm hh hq) rfl (lt79 (by decide)) rfl w1 tb_3_26 tb_3_24 tb_3_36 tb_3_31 tb_3_37 tb_1_4 tb_3_32 (na := 3) (by decide +kernel) rfl ⟨by omega, by omega⟩ rfl h8 hlv (fun hr => by have e : whereF ((1 : Nat) : Int) h q m = _ := whereF_1; rw [e] at k; exact k)
  | 2, _ => exact x_callOe (x := yX8_cellIn) (y := yX8_cellIn) n C d hn (c_X8_cellIn hm hh hq) rfl (lt79 (by decide)) rfl w1 tb_3_26 tb_3_24 tb_3_35 tb_3_24 tb_3_37 tb_1_3 tb_3_37 (na := 3) (by decide +kernel) rfl ⟨by omega, by omega⟩ rfl h8 hlv (fun hr => by have e : whereF ((2 : Nat) : Int) h q m = _ := whereF_n (by omega); rw [e] at k; exact k)
  | 3, _ => exact x_callOe (x := yX8_cellIn) (y := yX0_cellIn) n C d hn (c_X0_cellIn hm hh hq) rfl (lt79 (by decide)) rfl w1 tb_3_26 tb_3_24 tb_3_27 tb_3_28 tb_3_37 tb_1_6 tb_3_29 (na := 3) (by decide +kernel) rfl ⟨by omega, by omega⟩ rfl h8 hlv (fun hr => by have e : whereF ((3 : Nat) : Int) h q m = _ := whereF_3; rw [e] at k; exact k)
  | 4, _ => exact x_callOe (x := yX8_cellIn) (y := yX8_cellIn) n C d hn (c_X8_cellIn hm hh hq) rfl (lt79 (by decide)) rfl w1 tb_3_26 tb_3_24 tb_3_33 tb_3_24 tb_3_37 tb_1_3 tb_3_37 (na := 3) (by decide +kernel) rfl ⟨by omega, by omega⟩ rfl h8 hlv (fun hr => by have e : whereF ((4 : Nat) : Int) h q m = _ := whereF_n (by omega); rw [e] at k; exact k)
  | 5, _ => exact x_callOe (x := yX8_cellIn) (y := yX8_cellIn) n C d hn (c_X8_cellIn hm hh hq) rfl (lt79 (by decide)) rfl w1 tb_3_26 tb_3_24 tb_3_34 tb_3_24 tb_3_37 tb_1_3 tb_3_37 (na := 3) (by decide +kernel) rfl ⟨by omega, by omega⟩ rfl h8 hlv (fun hr => by have e : whereF ((5 : Nat) : Int) h q m = _ := whereF_n (by omega); rw [e] at k; exact k)
theorem b2_congr {a b : Prop} [Decidable a] [Decidable b] (h : a ↔ b) : b2 a = b2 b := by
  by_cases ha : a
  · rw [b2_t ha, b2_t (h.mp ha)]
  · rw [b2_f ha, b2_f (fun hb => ha (h.mpr hb))]
theorem x_shows (n : Nat) (C : Cx K G (NN tc) ρ own cc nL fr lo) {ix : Nat} (d : decode cc pc = .ok (.invokevirtual ix, 3)) (hn : pc + 3 = n) (w1 : Cond.methodLink own ix yX8_shows ∈ TB) {kd : Nat} (hk : kd < 6) {f q u : Int} (hf : 0 ≤ f ∧ f ≤ 9) (hq : 0 ≤ q ∧ q ≤ 9) (hu : 0 ≤ u ∧ u ≤ 9) (hro : 3 ≤ fr ∧ 80 ≤ lo) (h8 : (st.map fun v => v.category).sum ≤ 8) (hlv : lv.length = nL) (k : Ex K G (NN tc) ρ (shp tc cl) n lv (.int (iZ (b2 (showsF (kd : Int) q u f = true))) :: st) σ) : Ex K G (NN tc) ρ (shp tc cl) pc lv (.int (iZ u) :: .int (iZ q) :: .int (iZ f) :: .ref (ρ (22 + kd)) :: st) σ := by
  match kd, hk with
  | 0, _ => exact x_callOe (x := yX8_shows) (y := yX8_shows) n C d hn (c_X8_shows hf hq hu) rfl (lt79 (by decide)) rfl w1 tb_3_86 tb_3_84 tb_3_85 tb_3_84 tb_3_104 tb_1_3 tb_3_104 (na := 3) (by decide +kernel) rfl ⟨by omega, by omega⟩ rfl h8 hlv (fun hr => by have e : b2 (showsF ((0 : Nat) : Int) q u f = true) = _ := b2_congr (b := f ≤ 9 - u) (by simp [showsF]); rw [e] at k; exact k)
  | 1, _ => exact x_callOe (x := yX8_shows) (y := yX8_shows) n C d hn (c_X8_shows hf hq hu) rfl (lt79 (by decide)) rfl w1 tb_3_86 tb_3_84 tb_3_103 tb_3_84 tb_3_104 tb_1_3 tb_3_104 (na := 3) (by decide +kernel) rfl ⟨by omega, by omega⟩ rfl h8 hlv (fun hr => by have e : b2 (showsF ((1 : Nat) : Int) q u f = true) = _ := b2_congr (b := f ≤ 9 - u) (by simp [showsF]); rw [e] at k; exact k)
  | 2, _ => exact x_callOe (x := yX8_shows) (y := yX4_shows) n C d hn (c_X4_shows hf hq hu) rfl (lt79 (by decide)) rfl w1 tb_3_86 tb_3_84 tb_3_102 tb_3_97 tb_3_104 tb_1_5 tb_3_98 (na := 3) (by decide +kernel) rfl ⟨by omega, by omega⟩ rfl h8 hlv (fun hr => by have e : b2 (showsF ((2 : Nat) : Int) q u f = true) = _ := b2_congr (b := f = 1) (by simp [showsF]); rw [e] at k; exact k)
  | 3, _ => exact x_callOe (x := yX8_shows) (y := yX0_shows) n C d hn (c_X0_shows hf hq hu) rfl (lt79 (by decide)) rfl w1 tb_3_86 tb_3_84 tb_3_87 tb_3_88 tb_3_104 tb_1_6 tb_3_89 (na := 3) (by decide +kernel) rfl ⟨by omega, by omega⟩ rfl h8 hlv (fun hr => by have e : b2 (showsF ((3 : Nat) : Int) q u f = true) = _ := b2_congr (b := f ≠ 1 ∧ f ≤ 9 - u) (by simp [showsF]); rw [e] at k; exact k)
  | 4, _ => exact x_callOe (x := yX8_shows) (y := yX1_shows) n C d hn (c_X1_shows hf hq hu) rfl (lt79 (by decide)) rfl w1 tb_3_86 tb_3_84 tb_3_93 tb_3_94 tb_3_104 tb_1_7 tb_3_95 (na := 3) (by decide +kernel) rfl ⟨by omega, by omega⟩ rfl h8 hlv (fun hr => by have e : b2 (showsF ((4 : Nat) : Int) q u f = true) = _ := b2_congr (b := f = q ∨ f = 1) (by simp [showsF]); rw [e] at k; exact k)
  | 5, _ => exact x_callOe (x := yX8_shows) (y := yX2_shows) n C d hn (c_X2_shows hf hq hu) rfl (lt79 (by decide)) rfl w1 tb_3_86 tb_3_84 tb_3_99 tb_3_100 tb_3_104 tb_1_8 tb_3_101 (na := 3) (by decide +kernel) rfl ⟨by omega, by omega⟩ rfl h8 hlv (fun hr => by have e : b2 (showsF ((5 : Nat) : Int) q u f = true) = _ := b2_congr (b := u < 9) (by simp [showsF]); rw [e] at k; exact k)
theorem x_worth (n : Nat) (C : Cx K G (NN tc) ρ own cc nL fr lo) {ix : Nat} (d : decode cc pc = .ok (.invokevirtual ix, 3)) (hn : pc + 3 = n) (w1 : Cond.methodLink own ix yX8_worth ∈ TB) {kd : Nat} (hk : kd < 6) {v f q : Int} (hv : -99 ≤ v ∧ v ≤ 198) (hf : 0 ≤ f ∧ f ≤ 9) (hq : 0 ≤ q ∧ q ≤ 9) (hro : 3 ≤ fr ∧ 80 ≤ lo) (h8 : (st.map fun v => v.category).sum ≤ 8) (hlv : lv.length = nL) (k : Ex K G (NN tc) ρ (shp tc cl) n lv (.int (iZ (worthK (kd : Int) q v f)) :: st) σ) : Ex K G (NN tc) ρ (shp tc cl) pc lv (.int (iZ q) :: .int (iZ f) :: .int (iZ v) :: .ref (ρ (22 + kd)) :: st) σ := by
  match kd, hk with
  | 0, _ => exact x_callOe (x := yX8_worth) (y := yX8_worth) n C d hn (c_X8_worth hv hf hq) rfl (lt79 (by decide)) rfl w1 tb_3_127 tb_3_125 tb_3_126 tb_3_125 tb_3_147 tb_1_3 tb_3_147 (na := 3) (by decide +kernel) rfl ⟨by omega, by omega⟩ rfl h8 hlv (fun hr => by have e : worthK ((0 : Nat) : Int) q v f = _ := rfl; rw [e] at k; exact k)
  | 1, _ => exact x_callOe (x := yX8_worth) (y := yX10_worth) n C d hn (c_X10_worth (by omega) hv hf hq) rfl (lt79 (by decide)) rfl w1 tb_3_127 tb_3_125 tb_3_146 tb_3_132 tb_3_147 tb_1_4 tb_3_133 (na := 3) (by decide +kernel) rfl ⟨by omega, by omega⟩ rfl h8 hlv (fun hr => by have e : worthK ((1 : Nat) : Int) q v f = _ := rfl; rw [e] at k; exact k)
  | 2, _ => exact x_callOe (x := yX8_worth) (y := yX4_worth) n C d hn (c_X4_worth hv hf hq) rfl (lt79 (by decide)) rfl w1 tb_3_127 tb_3_125 tb_3_145 tb_3_139 tb_3_147 tb_1_5 tb_3_140 (na := 3) (by decide +kernel) rfl ⟨by omega, by omega⟩ rfl h8 hlv (fun hr => by have e : worthK ((2 : Nat) : Int) q v f = _ := rfl; rw [e] at k; exact k)
  | 3, _ => exact x_callOe (x := yX8_worth) (y := yX0_worth) n C d hn (c_X0_worth hv hf hq) rfl (lt79 (by decide)) rfl w1 tb_3_127 tb_3_125 tb_3_128 tb_3_129 tb_3_147 tb_1_6 tb_3_130 (na := 3) (by decide +kernel) rfl ⟨by omega, by omega⟩ rfl h8 hlv (fun hr => by have e : worthK ((3 : Nat) : Int) q v f = _ := rfl; rw [e] at k; exact k)
  | 4, _ => exact x_callOe (x := yX8_worth) (y := yX1_worth) n C d hn (c_X1_worth hv hf hq) rfl (lt79 (by decide)) rfl w1 tb_3_127 tb_3_125 tb_3_135 tb_3_136 tb_3_147 tb_1_7 tb_3_137 (na := 3) (by decide +kernel) rfl ⟨by omega, by omega⟩ rfl h8 hlv (fun hr => by have e : worthK ((4 : Nat) : Int) q v f = _ := rfl; rw [e] at k; exact k)
  | 5, _ => exact x_callOe (x := yX8_worth) (y := yX2_worth) n C d hn (c_X2_worth hv hf hq) rfl (lt79 (by decide)) rfl w1 tb_3_127 tb_3_125 tb_3_141 tb_3_142 tb_3_147 tb_1_8 tb_3_143 (na := 3) (by decide +kernel) rfl ⟨by omega, by omega⟩ rfl h8 hlv (fun hr => by have e : worthK ((5 : Nat) : Int) q v f = _ := rfl; rw [e] at k; exact k)
end ROWS
set_option maxHeartbeats 4000000 in
set_option maxRecDepth 100000 in
theorem c_X11_where {l : Launch} {G : Gt} {ρ : Nat → Nat} {tc : Nat} {cl : Nat → Nat} {σ : Sig} {t m : Int} (ht : -2147483648 ≤ t ∧ t ≤ 2147483647) (hm : -2147483648 ≤ m ∧ m ≤ 2147483647) (hT : TI σ) : MX l yX11_where cX11_where 3 (some .int) 3 80 G (NN tc) ρ (shp tc cl) [.ref (ρ 0), .int (iZ t), .int (iZ m)] σ (PE σ (if 0 ≤ t ∧ t < σ 1 3 ∧ 0 ≤ m ∧ m < 24 then whereF (σ 6 t.toNat) (σ 3 t.toNat) (σ 5 t.toNat) m else -2)) := by
  refine MX_of [some (.ref (ρ 0)), some (.int (iZ t)), some (.int (iZ m))] (by decide +kernel) rfl rfl (Nat.le_of_ble_eq_true rfl) ?_
  intro K hKl C T hRng
  subst hKl
  have h3 := hT.2.2.1
  have hq := hT.2.2.2.2 t.toNat
  refine x_aload_n 1 C dX11_where_0 rfl rfl rfl ?_
  refine x_iload_n 2 C dX11_where_1 rfl rfl rfl ?_
  refine x_callVe 5 C dX11_where_2 rfl (c_X11_isThing (by omega)) rfl (lt79 (by decide)) rfl tb_3_15 tb_3_17 tb_0_14 tb_1_1 tb_3_18 (na := 1) (by decide +kernel) rfl ⟨by decide, by decide⟩ rfl (Nat.le_of_ble_eq_true rfl) rfl (fun r2 => ?_)
  first
    | refine x_ifb_eq 17 8 C dX11_where_5 rfl rfl (fun h5 => ?_) (fun h5 => ?_)
    | refine x_if_eq 17 8 C dX11_where_5 rfl rfl (by omega) (fun h5 => ?_) (fun h5 => ?_)
  · refine x_bipush 19 C dX11_where_17 rfl rfl ?_
    refine x_iret C T dX11_where_19 ?_
    exact PE_i (by first | rw [if_pos (by omega)] | rw [if_neg (by omega)]) (by omega)
  refine x_iload_n 9 C dX11_where_8 rfl rfl rfl ?_
  refine x_bipush 11 C dX11_where_9 rfl rfl ?_
  refine x_callSe 14 C dX11_where_11 rfl (c_X11_isWithin (by omega) (by omega)) tb_2_214 tb_2_215 tb_1_1 tb_2_216 (na := 2) (by decide +kernel) rfl ⟨by decide, by decide⟩ rfl (Nat.le_of_ble_eq_true rfl) rfl (fun r11 => ?_)
  first
    | refine x_ifb_ne 20 17 C dX11_where_14 rfl rfl (fun h14 => ?_) (fun h14 => ?_)
    | refine x_if_ne 20 17 C dX11_where_14 rfl rfl (by omega) (fun h14 => ?_) (fun h14 => ?_)
  rotate_left
  · refine x_bipush 19 C dX11_where_17 rfl rfl ?_
    refine x_iret C T dX11_where_19 ?_
    exact PE_i (by first | rw [if_pos (by omega)] | rw [if_neg (by omega)]) (by omega)
  refine x_aload_n 21 C dX11_where_20 rfl rfl rfl ?_
  refine x_iload_n 22 C dX11_where_21 rfl rfl rfl ?_
  refine x_callVr 25 C dX11_where_22 rfl (c_X11_kindOf (by omega) hT) rfl (lt79 (by decide)) rfl tb_3_19 tb_3_21 tb_0_15 tb_1_1 tb_3_22 (na := 1) (by decide +kernel) rfl ⟨by decide, by decide⟩ rfl (Nat.le_of_ble_eq_true rfl) rfl (fun z22 s22 hq22 hR22 => ?_)
  obtain ⟨rfl, rfl⟩ := hq22
  refine x_iload_n 26 C dX11_where_25 rfl rfl rfl ?_
  refine x_aload_n 27 C dX11_where_26 rfl rfl rfl ?_
  refine x_getr (j := 0) 30 C rfl (lt79 (by decide)) rfl rfl (by decide) inT11 tb_2_173 rfl dX11_where_27 rfl ?_
  refine x_getr (j := 4) 33 C rfl (lt79 (by decide)) rfl rfl (by decide) inT9 tb_1_48 rfl dX11_where_30 rfl ?_
  refine x_iload_n 34 C dX11_where_33 rfl rfl rfl ?_
  refine x_iald 35 C rfl (lt79 (by decide)) dX11_where_34 rfl (by omega) (by omega) (fun r34 => ?_)
  refine x_aload_n 36 C dX11_where_35 rfl rfl rfl ?_
  refine x_getr (j := 0) 39 C rfl (lt79 (by decide)) rfl rfl (by decide) inT11 tb_2_173 rfl dX11_where_36 rfl ?_
  refine x_getr (j := 6) 42 C rfl (lt79 (by decide)) rfl rfl (by decide) inT9 tb_1_54 rfl dX11_where_39 rfl ?_
  refine x_iload_n 43 C dX11_where_42 rfl rfl rfl ?_
  refine x_iald 44 C rfl (lt79 (by decide)) dX11_where_43 rfl (by omega) (by omega) (fun r43 => ?_)
  have hw := whereF_in (k := σ 6 t.toNat) (h := σ 3 t.toNat) (n := σ 5 t.toNat) (m := m) (by omega) (by omega) (by omega)
  refine x_cellIn 47 C dX11_where_44 rfl tb_3_23 (kd := (σ 6 t.toNat).toNat) (by omega) (by omega) (by omega) (by omega) ⟨by decide, by decide⟩ (Nat.le_of_ble_eq_true rfl) rfl ?_
  rw [show (((σ 6 t.toNat).toNat : Nat) : Int) = σ 6 t.toNat by omega]
  refine x_iret C T dX11_where_47 ?_
  exact PE_i (by first | rw [if_pos (by omega)] | rw [if_neg (by omega)]) (by omega)

def underF (k q : Int) : Prop := q = 0 ∨ k = q ∨ (k = 3 ∧ q = 1) ∨ (k = 4 ∧ q = 2)
set_option maxHeartbeats 4000000 in
set_option maxRecDepth 100000 in
theorem c_X11_isUnder0 {l : Launch} {G : Gt} {ρ : Nat → Nat} {tc : Nat} {cl : Nat → Nat} {σ : Sig} {q : Int} (hq : 0 ≤ q ∧ q < 6) : MX l yX11_isUnder cX11_isUnder 2 (some .boolean) 0 0 G (NN tc) ρ (shp tc cl) [.ref (ρ 22), .int (iZ q)] σ (PE σ (b2 (q = 0 ∨ q = 0))) := by
  refine MX_of [some (.ref (ρ 22)), some (.int (iZ q))] (by decide +kernel) rfl rfl (Nat.le_of_ble_eq_true rfl) ?_
  intro K hKl C T hRng
  subst hKl
  refine x_iload_n 1 C dX11_isUnder_0 rfl rfl rfl ?_
  refine x_tab 61 [36, 41, 46, 51, 56] C dX11_isUnder_1 rfl (by decide) (by decide) (by omega) (fun h1 => ?_) (fun j hj h1 => ?_)
  · refine x_iconst 62 C dX11_isUnder_61 rfl ?_
    refine x_zret C T dX11_isUnder_62 (by omega) ?_
    exact PE_i (by unfold b2; split <;> omega) (by omega)
  match j, hj with
  | 0, hj =>
    refine x_aload_n 37 C dX11_isUnder_36 rfl rfl rfl ?_
    refine x_instN (C1 := "FirstSeen$Thing") (nm := "FirstSeen$Walking") 40 C rfl (lt79 (by decide)) rfl tb_1_110 (by decide +kernel) dX11_isUnder_37 rfl ?_
    refine x_zret C T dX11_isUnder_40 (by omega) ?_
    exact PE_i (by unfold b2; split <;> omega) (by omega) --END
  | 1, hj =>
    refine x_aload_n 42 C dX11_isUnder_41 rfl rfl rfl ?_
    refine x_instN (C1 := "FirstSeen$Thing") (nm := "FirstSeen$Picture") 45 C rfl (lt79 (by decide)) rfl tb_1_117 (by decide +kernel) dX11_isUnder_42 rfl ?_
    refine x_zret C T dX11_isUnder_45 (by omega) ?_
    exact PE_i (by unfold b2; split <;> omega) (by omega) --END
  | 2, hj =>
    refine x_aload_n 47 C dX11_isUnder_46 rfl rfl rfl ?_
    refine x_instN (C1 := "FirstSeen$Thing") (nm := "FirstSeen$Bull") 50 C rfl (lt79 (by decide)) rfl tb_1_124 (by decide +kernel) dX11_isUnder_47 rfl ?_
    refine x_zret C T dX11_isUnder_50 (by omega) ?_
    exact PE_i (by unfold b2; split <;> omega) (by omega) --END
  | 3, hj =>
    refine x_aload_n 52 C dX11_isUnder_51 rfl rfl rfl ?_
    refine x_instN (C1 := "FirstSeen$Thing") (nm := "FirstSeen$Framed") 55 C rfl (lt79 (by decide)) rfl tb_1_131 (by decide +kernel) dX11_isUnder_52 rfl ?_
    refine x_zret C T dX11_isUnder_55 (by omega) ?_
    exact PE_i (by unfold b2; split <;> omega) (by omega) --END
  | 4, hj =>
    refine x_aload_n 57 C dX11_isUnder_56 rfl rfl rfl ?_
    refine x_instN (C1 := "FirstSeen$Thing") (nm := "FirstSeen$Hill") 60 C rfl (lt79 (by decide)) rfl tb_1_138 (by decide +kernel) dX11_isUnder_57 rfl ?_
    refine x_zret C T dX11_isUnder_60 (by omega) ?_
    exact PE_i (by unfold b2; split <;> omega) (by omega) --END
  | j + 5, hj => exact absurd hj (by simp)

set_option maxHeartbeats 4000000 in
set_option maxRecDepth 100000 in
theorem c_X11_isUnder1 {l : Launch} {G : Gt} {ρ : Nat → Nat} {tc : Nat} {cl : Nat → Nat} {σ : Sig} {q : Int} (hq : 0 ≤ q ∧ q < 6) : MX l yX11_isUnder cX11_isUnder 2 (some .boolean) 0 0 G (NN tc) ρ (shp tc cl) [.ref (ρ 23), .int (iZ q)] σ (PE σ (b2 (q = 0 ∨ q = 1))) := by
  refine MX_of [some (.ref (ρ 23)), some (.int (iZ q))] (by decide +kernel) rfl rfl (Nat.le_of_ble_eq_true rfl) ?_
  intro K hKl C T hRng
  subst hKl
  refine x_iload_n 1 C dX11_isUnder_0 rfl rfl rfl ?_
  refine x_tab 61 [36, 41, 46, 51, 56] C dX11_isUnder_1 rfl (by decide) (by decide) (by omega) (fun h1 => ?_) (fun j hj h1 => ?_)
  · refine x_iconst 62 C dX11_isUnder_61 rfl ?_
    refine x_zret C T dX11_isUnder_62 (by omega) ?_
    exact PE_i (by unfold b2; split <;> omega) (by omega)
  match j, hj with
  | 0, hj =>
    refine x_aload_n 37 C dX11_isUnder_36 rfl rfl rfl ?_
    refine x_instS 40 C rfl (lt79 (by decide)) rfl tb_1_110 dX11_isUnder_37 rfl ?_
    refine x_zret C T dX11_isUnder_40 (by omega) ?_
    exact PE_i (by unfold b2; split <;> omega) (by omega) --END
  | 1, hj =>
    refine x_aload_n 42 C dX11_isUnder_41 rfl rfl rfl ?_
    refine x_instN (C1 := "FirstSeen$Walking") (nm := "FirstSeen$Picture") 45 C rfl (lt79 (by decide)) rfl tb_1_117 (by decide +kernel) dX11_isUnder_42 rfl ?_
    refine x_zret C T dX11_isUnder_45 (by omega) ?_
    exact PE_i (by unfold b2; split <;> omega) (by omega) --END
  | 2, hj =>
    refine x_aload_n 47 C dX11_isUnder_46 rfl rfl rfl ?_
    refine x_instN (C1 := "FirstSeen$Walking") (nm := "FirstSeen$Bull") 50 C rfl (lt79 (by decide)) rfl tb_1_124 (by decide +kernel) dX11_isUnder_47 rfl ?_
    refine x_zret C T dX11_isUnder_50 (by omega) ?_
    exact PE_i (by unfold b2; split <;> omega) (by omega) --END
  | 3, hj =>
    refine x_aload_n 52 C dX11_isUnder_51 rfl rfl rfl ?_
    refine x_instN (C1 := "FirstSeen$Walking") (nm := "FirstSeen$Framed") 55 C rfl (lt79 (by decide)) rfl tb_1_131 (by decide +kernel) dX11_isUnder_52 rfl ?_
    refine x_zret C T dX11_isUnder_55 (by omega) ?_
    exact PE_i (by unfold b2; split <;> omega) (by omega) --END
  | 4, hj =>
    refine x_aload_n 57 C dX11_isUnder_56 rfl rfl rfl ?_
    refine x_instN (C1 := "FirstSeen$Walking") (nm := "FirstSeen$Hill") 60 C rfl (lt79 (by decide)) rfl tb_1_138 (by decide +kernel) dX11_isUnder_57 rfl ?_
    refine x_zret C T dX11_isUnder_60 (by omega) ?_
    exact PE_i (by unfold b2; split <;> omega) (by omega) --END
  | j + 5, hj => exact absurd hj (by simp)

set_option maxHeartbeats 4000000 in
set_option maxRecDepth 100000 in
theorem c_X11_isUnder2 {l : Launch} {G : Gt} {ρ : Nat → Nat} {tc : Nat} {cl : Nat → Nat} {σ : Sig} {q : Int} (hq : 0 ≤ q ∧ q < 6) : MX l yX11_isUnder cX11_isUnder 2 (some .boolean) 0 0 G (NN tc) ρ (shp tc cl) [.ref (ρ 24), .int (iZ q)] σ (PE σ (b2 (q = 0 ∨ q = 2))) := by
  refine MX_of [some (.ref (ρ 24)), some (.int (iZ q))] (by decide +kernel) rfl rfl (Nat.le_of_ble_eq_true rfl) ?_
  intro K hKl C T hRng
  subst hKl
  refine x_iload_n 1 C dX11_isUnder_0 rfl rfl rfl ?_
  refine x_tab 61 [36, 41, 46, 51, 56] C dX11_isUnder_1 rfl (by decide) (by decide) (by omega) (fun h1 => ?_) (fun j hj h1 => ?_)
  · refine x_iconst 62 C dX11_isUnder_61 rfl ?_
    refine x_zret C T dX11_isUnder_62 (by omega) ?_
    exact PE_i (by unfold b2; split <;> omega) (by omega)
  match j, hj with
  | 0, hj =>
    refine x_aload_n 37 C dX11_isUnder_36 rfl rfl rfl ?_
    refine x_instN (C1 := "FirstSeen$Picture") (nm := "FirstSeen$Walking") 40 C rfl (lt79 (by decide)) rfl tb_1_110 (by decide +kernel) dX11_isUnder_37 rfl ?_
    refine x_zret C T dX11_isUnder_40 (by omega) ?_
    exact PE_i (by unfold b2; split <;> omega) (by omega) --END
  | 1, hj =>
    refine x_aload_n 42 C dX11_isUnder_41 rfl rfl rfl ?_
    refine x_instS 45 C rfl (lt79 (by decide)) rfl tb_1_117 dX11_isUnder_42 rfl ?_
    refine x_zret C T dX11_isUnder_45 (by omega) ?_
    exact PE_i (by unfold b2; split <;> omega) (by omega) --END
  | 2, hj =>
    refine x_aload_n 47 C dX11_isUnder_46 rfl rfl rfl ?_
    refine x_instN (C1 := "FirstSeen$Picture") (nm := "FirstSeen$Bull") 50 C rfl (lt79 (by decide)) rfl tb_1_124 (by decide +kernel) dX11_isUnder_47 rfl ?_
    refine x_zret C T dX11_isUnder_50 (by omega) ?_
    exact PE_i (by unfold b2; split <;> omega) (by omega) --END
  | 3, hj =>
    refine x_aload_n 52 C dX11_isUnder_51 rfl rfl rfl ?_
    refine x_instN (C1 := "FirstSeen$Picture") (nm := "FirstSeen$Framed") 55 C rfl (lt79 (by decide)) rfl tb_1_131 (by decide +kernel) dX11_isUnder_52 rfl ?_
    refine x_zret C T dX11_isUnder_55 (by omega) ?_
    exact PE_i (by unfold b2; split <;> omega) (by omega) --END
  | 4, hj =>
    refine x_aload_n 57 C dX11_isUnder_56 rfl rfl rfl ?_
    refine x_instN (C1 := "FirstSeen$Picture") (nm := "FirstSeen$Hill") 60 C rfl (lt79 (by decide)) rfl tb_1_138 (by decide +kernel) dX11_isUnder_57 rfl ?_
    refine x_zret C T dX11_isUnder_60 (by omega) ?_
    exact PE_i (by unfold b2; split <;> omega) (by omega) --END
  | j + 5, hj => exact absurd hj (by simp)

set_option maxHeartbeats 4000000 in
set_option maxRecDepth 100000 in
theorem c_X11_isUnder3 {l : Launch} {G : Gt} {ρ : Nat → Nat} {tc : Nat} {cl : Nat → Nat} {σ : Sig} {q : Int} (hq : 0 ≤ q ∧ q < 6) : MX l yX11_isUnder cX11_isUnder 2 (some .boolean) 0 0 G (NN tc) ρ (shp tc cl) [.ref (ρ 25), .int (iZ q)] σ (PE σ (b2 (q = 0 ∨ q = 3 ∨ q = 1))) := by
  refine MX_of [some (.ref (ρ 25)), some (.int (iZ q))] (by decide +kernel) rfl rfl (Nat.le_of_ble_eq_true rfl) ?_
  intro K hKl C T hRng
  subst hKl
  refine x_iload_n 1 C dX11_isUnder_0 rfl rfl rfl ?_
  refine x_tab 61 [36, 41, 46, 51, 56] C dX11_isUnder_1 rfl (by decide) (by decide) (by omega) (fun h1 => ?_) (fun j hj h1 => ?_)
  · refine x_iconst 62 C dX11_isUnder_61 rfl ?_
    refine x_zret C T dX11_isUnder_62 (by omega) ?_
    exact PE_i (by unfold b2; split <;> omega) (by omega)
  match j, hj with
  | 0, hj =>
    refine x_aload_n 37 C dX11_isUnder_36 rfl rfl rfl ?_
    refine x_instC (C1 := "FirstSeen$Bull") 40 C rfl (lt79 (by decide)) rfl tb_1_110 (by decide +kernel) dX11_isUnder_37 rfl ?_
    refine x_zret C T dX11_isUnder_40 (by omega) ?_
    exact PE_i (by unfold b2; split <;> omega) (by omega) --END
  | 1, hj =>
    refine x_aload_n 42 C dX11_isUnder_41 rfl rfl rfl ?_
    refine x_instN (C1 := "FirstSeen$Bull") (nm := "FirstSeen$Picture") 45 C rfl (lt79 (by decide)) rfl tb_1_117 (by decide +kernel) dX11_isUnder_42 rfl ?_
    refine x_zret C T dX11_isUnder_45 (by omega) ?_
    exact PE_i (by unfold b2; split <;> omega) (by omega) --END
  | 2, hj =>
    refine x_aload_n 47 C dX11_isUnder_46 rfl rfl rfl ?_
    refine x_instS 50 C rfl (lt79 (by decide)) rfl tb_1_124 dX11_isUnder_47 rfl ?_
    refine x_zret C T dX11_isUnder_50 (by omega) ?_
    exact PE_i (by unfold b2; split <;> omega) (by omega) --END
  | 3, hj =>
    refine x_aload_n 52 C dX11_isUnder_51 rfl rfl rfl ?_
    refine x_instN (C1 := "FirstSeen$Bull") (nm := "FirstSeen$Framed") 55 C rfl (lt79 (by decide)) rfl tb_1_131 (by decide +kernel) dX11_isUnder_52 rfl ?_
    refine x_zret C T dX11_isUnder_55 (by omega) ?_
    exact PE_i (by unfold b2; split <;> omega) (by omega) --END
  | 4, hj =>
    refine x_aload_n 57 C dX11_isUnder_56 rfl rfl rfl ?_
    refine x_instN (C1 := "FirstSeen$Bull") (nm := "FirstSeen$Hill") 60 C rfl (lt79 (by decide)) rfl tb_1_138 (by decide +kernel) dX11_isUnder_57 rfl ?_
    refine x_zret C T dX11_isUnder_60 (by omega) ?_
    exact PE_i (by unfold b2; split <;> omega) (by omega) --END
  | j + 5, hj => exact absurd hj (by simp)

set_option maxHeartbeats 4000000 in
set_option maxRecDepth 100000 in
theorem c_X11_isUnder4 {l : Launch} {G : Gt} {ρ : Nat → Nat} {tc : Nat} {cl : Nat → Nat} {σ : Sig} {q : Int} (hq : 0 ≤ q ∧ q < 6) : MX l yX11_isUnder cX11_isUnder 2 (some .boolean) 0 0 G (NN tc) ρ (shp tc cl) [.ref (ρ 26), .int (iZ q)] σ (PE σ (b2 (q = 0 ∨ q = 4 ∨ q = 2))) := by
  refine MX_of [some (.ref (ρ 26)), some (.int (iZ q))] (by decide +kernel) rfl rfl (Nat.le_of_ble_eq_true rfl) ?_
  intro K hKl C T hRng
  subst hKl
  refine x_iload_n 1 C dX11_isUnder_0 rfl rfl rfl ?_
  refine x_tab 61 [36, 41, 46, 51, 56] C dX11_isUnder_1 rfl (by decide) (by decide) (by omega) (fun h1 => ?_) (fun j hj h1 => ?_)
  · refine x_iconst 62 C dX11_isUnder_61 rfl ?_
    refine x_zret C T dX11_isUnder_62 (by omega) ?_
    exact PE_i (by unfold b2; split <;> omega) (by omega)
  match j, hj with
  | 0, hj =>
    refine x_aload_n 37 C dX11_isUnder_36 rfl rfl rfl ?_
    refine x_instN (C1 := "FirstSeen$Framed") (nm := "FirstSeen$Walking") 40 C rfl (lt79 (by decide)) rfl tb_1_110 (by decide +kernel) dX11_isUnder_37 rfl ?_
    refine x_zret C T dX11_isUnder_40 (by omega) ?_
    exact PE_i (by unfold b2; split <;> omega) (by omega) --END
  | 1, hj =>
    refine x_aload_n 42 C dX11_isUnder_41 rfl rfl rfl ?_
    refine x_instC (C1 := "FirstSeen$Framed") 45 C rfl (lt79 (by decide)) rfl tb_1_117 (by decide +kernel) dX11_isUnder_42 rfl ?_
    refine x_zret C T dX11_isUnder_45 (by omega) ?_
    exact PE_i (by unfold b2; split <;> omega) (by omega) --END
  | 2, hj =>
    refine x_aload_n 47 C dX11_isUnder_46 rfl rfl rfl ?_
    refine x_instN (C1 := "FirstSeen$Framed") (nm := "FirstSeen$Bull") 50 C rfl (lt79 (by decide)) rfl tb_1_124 (by decide +kernel) dX11_isUnder_47 rfl ?_
    refine x_zret C T dX11_isUnder_50 (by omega) ?_
    exact PE_i (by unfold b2; split <;> omega) (by omega) --END
  | 3, hj =>
    refine x_aload_n 52 C dX11_isUnder_51 rfl rfl rfl ?_
    refine x_instS 55 C rfl (lt79 (by decide)) rfl tb_1_131 dX11_isUnder_52 rfl ?_
    refine x_zret C T dX11_isUnder_55 (by omega) ?_
    exact PE_i (by unfold b2; split <;> omega) (by omega) --END
  | 4, hj =>
    refine x_aload_n 57 C dX11_isUnder_56 rfl rfl rfl ?_
    refine x_instN (C1 := "FirstSeen$Framed") (nm := "FirstSeen$Hill") 60 C rfl (lt79 (by decide)) rfl tb_1_138 (by decide +kernel) dX11_isUnder_57 rfl ?_
    refine x_zret C T dX11_isUnder_60 (by omega) ?_
    exact PE_i (by unfold b2; split <;> omega) (by omega) --END
  | j + 5, hj => exact absurd hj (by simp)

set_option maxHeartbeats 4000000 in
set_option maxRecDepth 100000 in
theorem c_X11_isUnder5 {l : Launch} {G : Gt} {ρ : Nat → Nat} {tc : Nat} {cl : Nat → Nat} {σ : Sig} {q : Int} (hq : 0 ≤ q ∧ q < 6) : MX l yX11_isUnder cX11_isUnder 2 (some .boolean) 0 0 G (NN tc) ρ (shp tc cl) [.ref (ρ 27), .int (iZ q)] σ (PE σ (b2 (q = 0 ∨ q = 5))) := by
  refine MX_of [some (.ref (ρ 27)), some (.int (iZ q))] (by decide +kernel) rfl rfl (Nat.le_of_ble_eq_true rfl) ?_
  intro K hKl C T hRng
  subst hKl
  refine x_iload_n 1 C dX11_isUnder_0 rfl rfl rfl ?_
  refine x_tab 61 [36, 41, 46, 51, 56] C dX11_isUnder_1 rfl (by decide) (by decide) (by omega) (fun h1 => ?_) (fun j hj h1 => ?_)
  · refine x_iconst 62 C dX11_isUnder_61 rfl ?_
    refine x_zret C T dX11_isUnder_62 (by omega) ?_
    exact PE_i (by unfold b2; split <;> omega) (by omega)
  match j, hj with
  | 0, hj =>
    refine x_aload_n 37 C dX11_isUnder_36 rfl rfl rfl ?_
    refine x_instN (C1 := "FirstSeen$Hill") (nm := "FirstSeen$Walking") 40 C rfl (lt79 (by decide)) rfl tb_1_110 (by decide +kernel) dX11_isUnder_37 rfl ?_
    refine x_zret C T dX11_isUnder_40 (by omega) ?_
    exact PE_i (by unfold b2; split <;> omega) (by omega) --END
  | 1, hj =>
    refine x_aload_n 42 C dX11_isUnder_41 rfl rfl rfl ?_
    refine x_instN (C1 := "FirstSeen$Hill") (nm := "FirstSeen$Picture") 45 C rfl (lt79 (by decide)) rfl tb_1_117 (by decide +kernel) dX11_isUnder_42 rfl ?_
    refine x_zret C T dX11_isUnder_45 (by omega) ?_
    exact PE_i (by unfold b2; split <;> omega) (by omega) --END
  | 2, hj =>
    refine x_aload_n 47 C dX11_isUnder_46 rfl rfl rfl ?_
    refine x_instN (C1 := "FirstSeen$Hill") (nm := "FirstSeen$Bull") 50 C rfl (lt79 (by decide)) rfl tb_1_124 (by decide +kernel) dX11_isUnder_47 rfl ?_
    refine x_zret C T dX11_isUnder_50 (by omega) ?_
    exact PE_i (by unfold b2; split <;> omega) (by omega) --END
  | 3, hj =>
    refine x_aload_n 52 C dX11_isUnder_51 rfl rfl rfl ?_
    refine x_instN (C1 := "FirstSeen$Hill") (nm := "FirstSeen$Framed") 55 C rfl (lt79 (by decide)) rfl tb_1_131 (by decide +kernel) dX11_isUnder_52 rfl ?_
    refine x_zret C T dX11_isUnder_55 (by omega) ?_
    exact PE_i (by unfold b2; split <;> omega) (by omega) --END
  | 4, hj =>
    refine x_aload_n 57 C dX11_isUnder_56 rfl rfl rfl ?_
    refine x_instS 60 C rfl (lt79 (by decide)) rfl tb_1_138 dX11_isUnder_57 rfl ?_
    refine x_zret C T dX11_isUnder_60 (by omega) ?_
    exact PE_i (by unfold b2; split <;> omega) (by omega) --END
  | j + 5, hj => exact absurd hj (by simp)

set_option maxHeartbeats 4000000 in
set_option maxRecDepth 100000 in
theorem c_X11_taken {l : Launch} {G : Gt} {ρ : Nat → Nat} {tc : Nat} {cl : Nat → Nat} {σ : Sig} {t q : Int} (ht : -2147483648 ≤ t ∧ t ≤ 2147483647) (hq : -2147483648 ≤ q ∧ q ≤ 2147483647) (hT : TI σ) : MX l yX11_taken cX11_taken 3 (some .int) 2 60 G (NN tc) ρ (shp tc cl) [.ref (ρ 0), .int (iZ t), .int (iZ q)] σ (PE σ (if 0 ≤ q ∧ q < 6 then (if 0 ≤ t ∧ t < σ 1 3 then (if q = 0 ∨ σ 6 t.toNat = q ∨ (σ 6 t.toNat = 3 ∧ q = 1) ∨ (σ 6 t.toNat = 4 ∧ q = 2) then σ 5 t.toNat else -13) else -11) else -2)) := by
  refine MX_of [some (.ref (ρ 0)), some (.int (iZ t)), some (.int (iZ q))] (by decide +kernel) rfl rfl (Nat.le_of_ble_eq_true rfl) ?_
  intro K hKl C T hRng
  subst hKl
  have h3 := hT.2.2.1
  have hqq := hT.2.2.2.2 t.toNat
  refine x_iload_n 1 C dX11_taken_0 rfl rfl rfl ?_
  refine x_bipush 3 C dX11_taken_1 rfl rfl ?_
  refine x_callSe 6 C dX11_taken_3 rfl (c_X11_isWithin (by omega) (by omega)) tb_2_214 tb_2_215 tb_1_1 tb_2_216 (na := 2) (by decide +kernel) rfl ⟨by decide, by decide⟩ rfl (Nat.le_of_ble_eq_true rfl) rfl (fun r3 => ?_)
  first
    | refine x_ifb_ne 12 9 C dX11_taken_6 rfl rfl (fun h6 => ?_) (fun h6 => ?_)
    | refine x_if_ne 12 9 C dX11_taken_6 rfl rfl (by omega) (fun h6 => ?_) (fun h6 => ?_)
  rotate_left
  · refine x_bipush 11 C dX11_taken_9 rfl rfl ?_
    refine x_iret C T dX11_taken_11 ?_
    refine PE_i ?_ (by omega)
    first
      | rw [if_neg (by omega)]
      | rw [if_pos (by omega), if_neg (by omega)]
      | rw [if_pos (by omega), if_pos (by omega), if_pos (by omega)]
      | rw [if_pos (by omega), if_pos (by omega), if_neg (by omega)]
  refine x_aload_n 13 C dX11_taken_12 rfl rfl rfl ?_
  refine x_iload_n 14 C dX11_taken_13 rfl rfl rfl ?_
  refine x_callVe 17 C dX11_taken_14 rfl (c_X11_isThing (by omega)) rfl (lt79 (by decide)) rfl tb_3_15 tb_3_17 tb_0_14 tb_1_1 tb_3_18 (na := 1) (by decide +kernel) rfl ⟨by decide, by decide⟩ rfl (Nat.le_of_ble_eq_true rfl) rfl (fun r14 => ?_)
  first
    | refine x_ifb_ne 23 20 C dX11_taken_17 rfl rfl (fun h17 => ?_) (fun h17 => ?_)
    | refine x_if_ne 23 20 C dX11_taken_17 rfl rfl (by omega) (fun h17 => ?_) (fun h17 => ?_)
  rotate_left
  · refine x_bipush 22 C dX11_taken_20 rfl rfl ?_
    refine x_iret C T dX11_taken_22 ?_
    refine PE_i ?_ (by omega)
    first
      | rw [if_neg (by omega)]
      | rw [if_pos (by omega), if_neg (by omega)]
      | rw [if_pos (by omega), if_pos (by omega), if_pos (by omega)]
      | rw [if_pos (by omega), if_pos (by omega), if_neg (by omega)]
  refine x_aload_n 24 C dX11_taken_23 rfl rfl rfl ?_
  refine x_iload_n 25 C dX11_taken_24 rfl rfl rfl ?_
  refine x_callVr 28 C dX11_taken_25 rfl (c_X11_kindOf (by omega) hT) rfl (lt79 (by decide)) rfl tb_3_19 tb_3_21 tb_0_15 tb_1_1 tb_3_22 (na := 1) (by decide +kernel) rfl ⟨by decide, by decide⟩ rfl (Nat.le_of_ble_eq_true rfl) rfl (fun z25 s25 hq25 hR25 => ?_)
  obtain ⟨rfl, rfl⟩ := hq25
  refine x_iload_n 29 C dX11_taken_28 rfl rfl rfl ?_
  have hU : ∀ kk : Nat, kk < 6 → (kk : Int) = σ 6 t.toNat → (Ex K G (NN tc) ρ (shp tc cl) 32 [some (.ref (ρ 0)), some (.int (iZ t)), some (.int (iZ q))] [.int (iZ (b2 (q = 0 ∨ σ 6 t.toNat = q ∨ (σ 6 t.toNat = 3 ∧ q = 1) ∨ (σ 6 t.toNat = 4 ∧ q = 2))))] σ) → Ex K G (NN tc) ρ (shp tc cl) 29 [some (.ref (ρ 0)), some (.int (iZ t)), some (.int (iZ q))] [.int (iZ q), .ref (ρ (22 + kk))] σ := by
    intro kk hkk hke k
    match kk, hkk with
    | 0, _ => exact x_callSe 32 C dX11_taken_29 rfl (c_X11_isUnder0 (by omega)) tb_4_122 tb_4_123 tb_1_1 tb_4_124 (na := 2) (by decide +kernel) rfl ⟨by decide, by decide⟩ rfl (Nat.le_of_ble_eq_true rfl) rfl (fun r29 => by rw [b2_congr (b := q = 0 ∨ σ 6 t.toNat = q ∨ (σ 6 t.toNat = 3 ∧ q = 1) ∨ (σ 6 t.toNat = 4 ∧ q = 2)) (by omega)]; exact k)
    | 1, _ => exact x_callSe 32 C dX11_taken_29 rfl (c_X11_isUnder1 (by omega)) tb_4_122 tb_4_123 tb_1_1 tb_4_124 (na := 2) (by decide +kernel) rfl ⟨by decide, by decide⟩ rfl (Nat.le_of_ble_eq_true rfl) rfl (fun r29 => by rw [b2_congr (b := q = 0 ∨ σ 6 t.toNat = q ∨ (σ 6 t.toNat = 3 ∧ q = 1) ∨ (σ 6 t.toNat = 4 ∧ q = 2)) (by omega)]; exact k)
    | 2, _ => exact x_callSe 32 C dX11_taken_29 rfl (c_X11_isUnder2 (by omega)) tb_4_122 tb_4_123 tb_1_1 tb_4_124 (na := 2) (by decide +kernel) rfl ⟨by decide, by decide⟩ rfl (Nat.le_of_ble_eq_true rfl) rfl (fun r29 => by rw [b2_congr (b := q = 0 ∨ σ 6 t.toNat = q ∨ (σ 6 t.toNat = 3 ∧ q = 1) ∨ (σ 6 t.toNat = 4 ∧ q = 2)) (by omega)]; exact k)
    | 3, _ => exact x_callSe 32 C dX11_taken_29 rfl (c_X11_isUnder3 (by omega)) tb_4_122 tb_4_123 tb_1_1 tb_4_124 (na := 2) (by decide +kernel) rfl ⟨by decide, by decide⟩ rfl (Nat.le_of_ble_eq_true rfl) rfl (fun r29 => by rw [b2_congr (b := q = 0 ∨ σ 6 t.toNat = q ∨ (σ 6 t.toNat = 3 ∧ q = 1) ∨ (σ 6 t.toNat = 4 ∧ q = 2)) (by omega)]; exact k)
    | 4, _ => exact x_callSe 32 C dX11_taken_29 rfl (c_X11_isUnder4 (by omega)) tb_4_122 tb_4_123 tb_1_1 tb_4_124 (na := 2) (by decide +kernel) rfl ⟨by decide, by decide⟩ rfl (Nat.le_of_ble_eq_true rfl) rfl (fun r29 => by rw [b2_congr (b := q = 0 ∨ σ 6 t.toNat = q ∨ (σ 6 t.toNat = 3 ∧ q = 1) ∨ (σ 6 t.toNat = 4 ∧ q = 2)) (by omega)]; exact k)
    | 5, _ => exact x_callSe 32 C dX11_taken_29 rfl (c_X11_isUnder5 (by omega)) tb_4_122 tb_4_123 tb_1_1 tb_4_124 (na := 2) (by decide +kernel) rfl ⟨by decide, by decide⟩ rfl (Nat.le_of_ble_eq_true rfl) rfl (fun r29 => by rw [b2_congr (b := q = 0 ∨ σ 6 t.toNat = q ∨ (σ 6 t.toNat = 3 ∧ q = 1) ∨ (σ 6 t.toNat = 4 ∧ q = 2)) (by omega)]; exact k)
  refine hU _ (by omega) (by omega) ?_
  first
    | refine x_ifb_eq 47 35 C dX11_taken_32 rfl rfl (fun h32 => ?_) (fun h32 => ?_)
    | refine x_if_eq 47 35 C dX11_taken_32 rfl rfl (by omega) (fun h32 => ?_) (fun h32 => ?_)
  · refine x_bipush 49 C dX11_taken_47 rfl rfl ?_
    refine x_iret C T dX11_taken_49 ?_
    refine PE_i ?_ (by omega)
    first
      | rw [if_neg (by omega)]
      | rw [if_pos (by omega), if_neg (by omega)]
      | rw [if_pos (by omega), if_pos (by omega), if_pos (by omega)]
      | rw [if_pos (by omega), if_pos (by omega), if_neg (by omega)]
  refine x_aload_n 36 C dX11_taken_35 rfl rfl rfl ?_
  refine x_getr (j := 0) 39 C rfl (lt79 (by decide)) rfl rfl (by decide) inT11 tb_2_173 rfl dX11_taken_36 rfl ?_
  refine x_getr (j := 6) 42 C rfl (lt79 (by decide)) rfl rfl (by decide) inT9 tb_1_54 rfl dX11_taken_39 rfl ?_
  refine x_iload_n 43 C dX11_taken_42 rfl rfl rfl ?_
  refine x_iald 44 C rfl (lt79 (by decide)) dX11_taken_43 rfl (by omega) (by omega) (fun r43 => ?_)
  refine x_goto 49 C dX11_taken_44 rfl ?_
  refine x_iret C T dX11_taken_49 ?_
  refine PE_i ?_ (by omega)
  first
    | rw [if_neg (by omega)]
    | rw [if_pos (by omega), if_neg (by omega)]
    | rw [if_pos (by omega), if_pos (by omega), if_pos (by omega)]
    | rw [if_pos (by omega), if_pos (by omega), if_neg (by omega)]
