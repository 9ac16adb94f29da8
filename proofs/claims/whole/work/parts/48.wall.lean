theorem cT_up2 {σ : Sig} {i : Nat} {v : Int} : cT (up σ 2 i v) = up (cT σ) 2 i v := by
  funext a b
  by_cases ha : a = 2
  · subst ha; rfl
  · rw [up_r ha]
    match a, ha with
    | 0, h => rfl
    | 1, h => rfl
    | 2, h => exact absurd rfl h
    | 3, h => rfl
    | 4, h => rfl
    | 5, h => rfl
    | 6, h => rfl
    | 7, h => rfl
    | 8, h => rfl
    | 9, h => rfl
    | 10, h => rfl
    | n + 11, _ => rfl
theorem cT_up3 {σ : Sig} {i : Nat} {v : Int} : cT (up σ 3 i v) = up (cT σ) 3 i v := by
  funext a b
  by_cases ha : a = 3
  · subst ha; rfl
  · rw [up_r ha]
    match a, ha with
    | 0, h => rfl
    | 1, h => rfl
    | 2, h => rfl
    | 3, h => exact absurd rfl h
    | 4, h => rfl
    | 5, h => rfl
    | 6, h => rfl
    | 7, h => rfl
    | 8, h => rfl
    | 9, h => rfl
    | 10, h => rfl
    | n + 11, _ => rfl
theorem cT_up4 {σ : Sig} {i : Nat} {v : Int} : cT (up σ 4 i v) = up (cT σ) 4 i v := by
  funext a b
  by_cases ha : a = 4
  · subst ha; rfl
  · rw [up_r ha]
    match a, ha with
    | 0, h => rfl
    | 1, h => rfl
    | 2, h => rfl
    | 3, h => rfl
    | 4, h => exact absurd rfl h
    | 5, h => rfl
    | 6, h => rfl
    | 7, h => rfl
    | 8, h => rfl
    | 9, h => rfl
    | 10, h => rfl
    | n + 11, _ => rfl
theorem cT_up5 {σ : Sig} {i : Nat} {v : Int} : cT (up σ 5 i v) = up (cT σ) 5 i v := by
  funext a b
  by_cases ha : a = 5
  · subst ha; rfl
  · rw [up_r ha]
    match a, ha with
    | 0, h => rfl
    | 1, h => rfl
    | 2, h => rfl
    | 3, h => rfl
    | 4, h => rfl
    | 5, h => exact absurd rfl h
    | 6, h => rfl
    | 7, h => rfl
    | 8, h => rfl
    | 9, h => rfl
    | 10, h => rfl
    | n + 11, _ => rfl
theorem cT_up7 {σ : Sig} {i : Nat} {v : Int} : cT (up σ 7 i v) = up (cT σ) 7 i v := by
  funext a b
  by_cases ha : a = 7
  · subst ha; rfl
  · rw [up_r ha]
    match a, ha with
    | 0, h => rfl
    | 1, h => rfl
    | 2, h => rfl
    | 3, h => rfl
    | 4, h => rfl
    | 5, h => rfl
    | 6, h => rfl
    | 7, h => exact absurd rfl h
    | 8, h => rfl
    | 9, h => rfl
    | 10, h => rfl
    | n + 11, _ => rfl
theorem cT_up8 {σ : Sig} {i : Nat} {v : Int} : cT (up σ 8 i v) = up (cT σ) 8 i v := by
  funext a b
  by_cases ha : a = 8
  · subst ha; rfl
  · rw [up_r ha]
    match a, ha with
    | 0, h => rfl
    | 1, h => rfl
    | 2, h => rfl
    | 3, h => rfl
    | 4, h => rfl
    | 5, h => rfl
    | 6, h => rfl
    | 7, h => rfl
    | 8, h => exact absurd rfl h
    | 9, h => rfl
    | 10, h => rfl
    | n + 11, _ => rfl
theorem cT_up9 {σ : Sig} {i : Nat} {v : Int} : cT (up σ 9 i v) = up (cT σ) 9 i v := by
  funext a b
  by_cases ha : a = 9
  · subst ha; rfl
  · rw [up_r ha]
    match a, ha with
    | 0, h => rfl
    | 1, h => rfl
    | 2, h => rfl
    | 3, h => rfl
    | 4, h => rfl
    | 5, h => rfl
    | 6, h => rfl
    | 7, h => rfl
    | 8, h => rfl
    | 9, h => exact absurd rfl h
    | 10, h => rfl
    | n + 11, _ => rfl
theorem cT_up1 {σ : Sig} {v : Int} : cT (up σ 1 1 v) = up (cT σ) 1 1 v := by
  funext a b
  by_cases ha : a = 1
  · subst ha
    by_cases hb : b = 1
    · subst hb; rfl
    · rw [up_i hb]
      show (if b = 1 ∨ b = 2 ∨ b = 3 ∨ b = 8 then up σ 1 1 v 1 b else 0) = _
      rw [up_i hb]
      rfl
  · rw [up_r ha]
    match a, ha with
    | 0, _ => rfl
    | 1, h => exact absurd rfl h
    | 2, _ => rfl
    | 3, _ => rfl
    | 4, _ => rfl
    | 5, _ => rfl
    | 6, _ => rfl
    | 7, _ => rfl
    | 8, _ => rfl
    | 9, _ => rfl
    | 10, _ => rfl
    | n + 11, _ => rfl
theorem TI_h {σ : Sig} (h : TI σ) {c : Nat} {v : Int} (hv : 0 ≤ v ∧ v ≤ 9) : TI (up σ 2 c v) := by
  obtain ⟨h1, h2, h3, h4, h5⟩ := h
  refine ⟨h1, h2, h3, h4, fun i => ⟨?_, (h5 i).2⟩⟩
  by_cases hi : i = c
  · subst hi; rw [up_s]; exact hv
  · rw [up_i hi]; exact (h5 i).1
theorem TI_f {σ : Sig} (h : TI σ) {v : Int} (hv : 0 ≤ v ∧ v ≤ 9) : TI (up σ 1 1 v) := by
  obtain ⟨h1, h2, h3, h4, h5⟩ := h
  exact ⟨by rw [up_s]; exact hv, h2, h3, h4, h5⟩
theorem CW_h {X : Nat → RuT} {tc : Nat} {cl : Nat → Nat} {σ : Sig} (h : CW X tc cl σ) {c : Nat} {v : Int} (hv : 0 ≤ v ∧ v ≤ 9) : CW X tc cl (up σ 2 c v) := by
  refine ⟨TI_h h.1 hv, ⟨h.2.1.1, fun t ht => ?_⟩, h.2.2⟩
  rw [up_row (show 79 + 3 * t ≠ 2 by omega), up_row (show 79 + 3 * t + 1 ≠ 2 by omega)]
  exact h.2.1.2 t ht
theorem CW_f {X : Nat → RuT} {tc : Nat} {cl : Nat → Nat} {σ : Sig} (h : CW X tc cl σ) {v : Int} (hv : 0 ≤ v ∧ v ≤ 9) : CW X tc cl (up σ 1 1 v) := by
  refine ⟨TI_f h.1 hv, ⟨h.2.1.1, fun t ht => ?_⟩, h.2.2⟩
  rw [up_row (show 79 + 3 * t ≠ 1 by omega), up_row (show 79 + 3 * t + 1 ≠ 1 by omega)]
  exact h.2.1.2 t ht
theorem LFT {X : Nat → RuT} {τ s : Sig} (h : HD X τ s) (h9 : s 9 = τ 9) (h12 : s 1 2 = τ 1 2) {a : Nat} (ha : (a : Int) < τ 1 8) : s 41 a - slpG X (cT s) (s 9 a) a = leftT X (cT τ) a := by
  rw [h9, slpG_12 (X := X) (T := cT τ) (T' := cT s) h12, HD_left h ha]
set_option maxHeartbeats 4000000 in
set_option maxRecDepth 100000 in
theorem c_X11_dawnWithHeight {l : Launch} {G : Gt} {ρ : Nat → Nat} {tc : Nat} {cl : Nat → Nat} {σ : Sig} {X : Nat → RuT} {c : Nat} {h : Int} (hW : CW X tc cl σ) (hc : c < 36) (hh : 0 ≤ h ∧ h ≤ 9) : MX l yX11_dawnWithHeight cX11_dawnWithHeight 4 none 6 150 G (NN tc) ρ (shp tc cl) [.ref (ρ 0), .int (iZ (c : Int)), .int (iZ h)] σ (PV (fun σ' => Kp 33 41 σ σ' ∧ HD X (up σ 2 c h) σ')) := by
  refine MX_of [some (.ref (ρ 0)), some (.int (iZ (c : Int))), some (.int (iZ h)), none] (by decide +kernel) rfl rfl (Nat.le_of_ble_eq_true rfl) ?_
  intro K hKl C T hRng
  subst hKl
  have hcc : (c : Int).toNat = c := Int.toNat_natCast c
  refine x_aload_n 1 C dX11_dawnWithHeight_0 rfl rfl rfl ?_
  refine x_getr (j := 0) 4 C rfl (lt79 (by decide)) rfl rfl (by decide) inT11 tb_2_173 rfl dX11_dawnWithHeight_1 rfl ?_
  refine x_getr (j := 0) 7 C rfl (lt79 (by decide)) rfl rfl (by decide) inT9 tb_1_36 rfl dX11_dawnWithHeight_4 rfl ?_
  refine x_iload_n 8 C dX11_dawnWithHeight_7 rfl rfl rfl ?_
  refine x_iald 9 C rfl (lt79 (by decide)) dX11_dawnWithHeight_8 rfl (by omega) (by omega) (fun r8 => ?_)
  rw [hcc] at r8 ⊢
  refine x_istore_n3 10 C dX11_dawnWithHeight_9 rfl rfl ?_
  refine x_aload_n 11 C dX11_dawnWithHeight_10 rfl rfl rfl ?_
  refine x_getr (j := 0) 14 C rfl (lt79 (by decide)) rfl rfl (by decide) inT11 tb_2_173 rfl dX11_dawnWithHeight_11 rfl ?_
  refine x_getr (j := 0) 17 C rfl (lt79 (by decide)) rfl rfl (by decide) inT9 tb_1_36 rfl dX11_dawnWithHeight_14 rfl ?_
  refine x_iload_n 18 C dX11_dawnWithHeight_17 rfl rfl rfl ?_
  refine x_iload_n 19 C dX11_dawnWithHeight_18 rfl rfl rfl ?_
  refine x_iast 20 C rfl (lt79 (by decide)) dX11_dawnWithHeight_19 rfl (by omega) (by omega) (by omega) ?_
  rw [hcc]
  have hW2 := CW_h (c := c) hW hh
  refine x_aload_n 21 C dX11_dawnWithHeight_20 rfl rfl rfl ?_
  refine x_getr (j := 7) 24 C rfl (lt79 (by decide)) rfl rfl (by decide) inT11 tb_2_180 rfl dX11_dawnWithHeight_21 rfl ?_
  refine x_callVv 27 C dX11_dawnWithHeight_24 rfl (c_X3_dawn hW2) rfl (lt79 (by decide)) rfl tb_3_156 tb_3_157 tb_3_158 tb_1_18 tb_3_159 (na := 0) (by decide +kernel) rfl ⟨by decide, by decide⟩ rfl (Nat.le_of_ble_eq_true rfl) rfl (fun s24 hq24 hR24 => ?_)
  obtain ⟨k1, k2, k3⟩ := hq24
  refine x_aload_n 28 C dX11_dawnWithHeight_27 rfl rfl rfl ?_
  refine x_getr (j := 0) 31 C rfl (lt79 (by decide)) rfl rfl (by decide) inT11 tb_2_173 rfl dX11_dawnWithHeight_28 rfl ?_
  refine x_getr (j := 0) 34 C rfl (lt79 (by decide)) rfl rfl (by decide) inT9 tb_1_36 rfl dX11_dawnWithHeight_31 rfl ?_
  refine x_iload_n 35 C dX11_dawnWithHeight_34 rfl rfl rfl ?_
  refine x_iload_n 36 C dX11_dawnWithHeight_35 rfl rfl rfl ?_
  refine x_iast 37 C rfl (lt79 (by decide)) dX11_dawnWithHeight_36 rfl (by omega) (by omega) (by omega) ?_
  rw [hcc]
  refine x_vret C T dX11_dawnWithHeight_37 ?_
  refine PV_i ⟨fun a h1 h2 => ?_, HD_keep k3 (up_row (by omega)) (up_row (by omega))⟩
  by_cases ha : a = 2
  · subst ha
    funext b
    by_cases hb : b = c
    · subst hb; rw [up_s]
    · rw [up_i hb, k1 2 (by omega) (by omega), up_i hb]
  · rw [up_row ha, k1 a h1 h2, up_row ha]

def walF (X : Nat → RuT) (T : Sig) (s o : Nat) : Nat → Int × Int
  | 0 => (-1, leftT X T o)
  | c + 1 => if leftT X T s ≤ leftT X (up T 2 c 9) s ∧ leftT X (up T 2 c 9) o < (walF X T s o c).2 then ((c : Int), leftT X (up T 2 c 9) o) else walF X T s o c
def felF (X : Nat → RuT) (T : Sig) (s : Nat) : Nat → Int × Int
  | 0 => (-1, leftT X T s)
  | c + 1 => if (felF X T s c).2 < leftT X (up T 2 c 0) s then ((c : Int), leftT X (up T 2 c 0) s) else felF X T s c
def rWall (X : Nat → RuT) (T : Sig) (v q : Int) : Int := if (0 ≤ v ∧ v < T 1 8) ∧ (0 ≤ q ∧ q < T 1 8) ∧ v ≠ q then (walF X T v.toNat q.toNat 36).1 else -2
def rFell (X : Nat → RuT) (T : Sig) (v : Int) : Int := if 0 ≤ v ∧ v < T 1 8 then (felF X T v.toNat 36).1 else -2
theorem TI_up2 {T : Sig} (h : TI T) {c : Nat} {v : Int} (hv : 0 ≤ v ∧ v ≤ 9) : TI (up T 2 c v) := TI_h h hv
theorem walF_in {X : Nat → RuT} {T : Sig} (hT : TI T) {s o : Nat} : ∀ c : Nat, (-1 ≤ (walF X T s o c).1 ∧ (walF X T s o c).1 ≤ c) ∧ -99 ≤ (walF X T s o c).2 ∧ (walF X T s o c).2 ≤ 1000
  | 0 => ⟨⟨Int.le_refl _, show (-1 : Int) ≤ ((0 : Nat) : Int) by decide⟩, leftT_in hT⟩
  | c + 1 => by
    have h := walF_in (X := X) hT (s := s) (o := o) c
    have h2 := leftT_in (X := X) (s := o) (TI_up2 hT (c := c) (v := 9) (by decide))
    simp only [walF]
    split
    · exact ⟨⟨by show -1 ≤ ((c : Nat) : Int); omega, by show ((c : Nat) : Int) ≤ _; omega⟩, h2⟩
    · omega
theorem felF_in {X : Nat → RuT} {T : Sig} (hT : TI T) {s : Nat} : ∀ c : Nat, (-1 ≤ (felF X T s c).1 ∧ (felF X T s c).1 ≤ c) ∧ -99 ≤ (felF X T s c).2 ∧ (felF X T s c).2 ≤ 1000
  | 0 => ⟨⟨Int.le_refl _, show (-1 : Int) ≤ ((0 : Nat) : Int) by decide⟩, leftT_in hT⟩
  | c + 1 => by
    have h := felF_in (X := X) hT (s := s) c
    have h2 := leftT_in (X := X) (s := s) (TI_up2 hT (c := c) (v := 0) (by decide))
    simp only [felF]
    split
    · exact ⟨⟨by show -1 ≤ ((c : Nat) : Int); omega, by show ((c : Nat) : Int) ≤ _; omega⟩, h2⟩
    · omega
set_option maxHeartbeats 4000000 in
set_option maxRecDepth 100000 in
theorem c_X11_wall {l : Launch} {G : Gt} {ρ : Nat → Nat} {tc : Nat} {cl : Nat → Nat} {σ : Sig} {X : Nat → RuT} {v q : Int} (hW : CW X tc cl σ) (hv : -2147483648 ≤ v ∧ v ≤ 2147483647) (hq : -2147483648 ≤ q ∧ q ≤ 2147483647) : MX l yX11_wall cX11_wall 7 (some .int) 7 173 G (NN tc) ρ (shp tc cl) [.ref (ρ 0), .int (iZ v), .int (iZ q)] σ (PI (fun z σ' => Kp 33 41 σ σ' ∧ z = rWall X (cT σ) v q)) := by
  refine MX_of [some (.ref (ρ 0)), some (.int (iZ v)), some (.int (iZ q)), none, none, none, none] (by decide +kernel) rfl rfl (Nat.le_of_ble_eq_true rfl) ?_
  intro K hKl C T hRng
  subst hKl
  have hT := hW.1
  have h3 := hT.2.2.1
  have h8 := hT.2.2.2.1
  have hTc := TI_cT hT
  refine x_aload_n 1 C dX11_wall_0 rfl rfl rfl ?_
  refine x_iload_n 2 C dX11_wall_1 rfl rfl rfl ?_
  refine x_callVe 5 C dX11_wall_2 rfl (c_X11_isSleeper (by omega)) rfl (lt79 (by decide)) rfl tb_3_54 tb_3_56 tb_0_16 tb_1_1 tb_3_57 (na := 1) (by decide +kernel) rfl ⟨by decide, by decide⟩ rfl (Nat.le_of_ble_eq_true rfl) rfl (fun r2 => ?_)
  first
    | refine x_ifb_eq 21 8 C dX11_wall_5 rfl rfl (fun h5 => ?_) (fun h5 => ?_)
    | refine x_if_eq 21 8 C dX11_wall_5 rfl rfl (by omega) (fun h5 => ?_) (fun h5 => ?_)
  · refine x_bipush 23 C dX11_wall_21 rfl rfl ?_
    refine x_iret C T dX11_wall_23 ?_
    refine PI_i (by omega) ⟨?_, ?_⟩
    · first | exact Kp_refl σ | exact hK1
    · unfold rWall
      first
        | (rw [if_neg (by rw [cT_18]; omega)]; done)
        | (rw [if_pos (by rw [cT_18]; omega), hss, hqq, show (36 : Nat) = c by omega]; exact hfo)
  refine x_aload_n 9 C dX11_wall_8 rfl rfl rfl ?_
  refine x_iload_n 10 C dX11_wall_9 rfl rfl rfl ?_
  refine x_callVe 13 C dX11_wall_10 rfl (c_X11_isSleeper (by omega)) rfl (lt79 (by decide)) rfl tb_3_54 tb_3_56 tb_0_16 tb_1_1 tb_3_57 (na := 1) (by decide +kernel) rfl ⟨by decide, by decide⟩ rfl (Nat.le_of_ble_eq_true rfl) rfl (fun r10 => ?_)
  first
    | refine x_ifb_eq 21 16 C dX11_wall_13 rfl rfl (fun h13 => ?_) (fun h13 => ?_)
    | refine x_if_eq 21 16 C dX11_wall_13 rfl rfl (by omega) (fun h13 => ?_) (fun h13 => ?_)
  · refine x_bipush 23 C dX11_wall_21 rfl rfl ?_
    refine x_iret C T dX11_wall_23 ?_
    refine PI_i (by omega) ⟨?_, ?_⟩
    · first | exact Kp_refl σ | exact hK1
    · unfold rWall
      first
        | (rw [if_neg (by rw [cT_18]; omega)]; done)
        | (rw [if_pos (by rw [cT_18]; omega), hss, hqq, show (36 : Nat) = c by omega]; exact hfo)
  refine x_iload_n 17 C dX11_wall_16 rfl rfl rfl ?_
  refine x_iload_n 18 C dX11_wall_17 rfl rfl rfl ?_
  refine x_icmp_ne 24 21 C dX11_wall_18 rfl rfl (by omega) (by omega) (fun h18 => ?_) (fun h18 => ?_)
  rotate_left
  · refine x_bipush 23 C dX11_wall_21 rfl rfl ?_
    refine x_iret C T dX11_wall_23 ?_
    refine PI_i (by omega) ⟨?_, ?_⟩
    · first | exact Kp_refl σ | exact hK1
    · unfold rWall
      first
        | (rw [if_neg (by rw [cT_18]; omega)]; done)
        | (rw [if_pos (by rw [cT_18]; omega), hss, hqq, show (36 : Nat) = c by omega]; exact hfo)
  obtain ⟨s, rfl⟩ : ∃ s : Nat, v = (s : Int) := ⟨v.toNat, by omega⟩
  have hss : (s : Int).toNat = s := Int.toNat_natCast s
  obtain ⟨q, rfl⟩ : ∃ s : Nat, q = (s : Int) := ⟨q.toNat, by omega⟩
  have hqq : (q : Int).toNat = q := Int.toNat_natCast q
  refine x_aload_n 25 C dX11_wall_24 rfl rfl rfl ?_
  refine x_getr (j := 7) 28 C rfl (lt79 (by decide)) rfl rfl (by decide) inT11 tb_2_180 rfl dX11_wall_25 rfl ?_
  refine x_callVv 31 C dX11_wall_28 rfl (c_X3_dawn hW) rfl (lt79 (by decide)) rfl tb_3_156 tb_3_157 tb_3_158 tb_1_18 tb_3_159 (na := 0) (by decide +kernel) rfl ⟨by decide, by decide⟩ rfl (Nat.le_of_ble_eq_true rfl) rfl (fun s28 hq28 hR28 => ?_)
  obtain ⟨hK28, kk28, hD28⟩ := hq28
  have hW28 := CW_Kp hW hK28 (by omega)
  have e18_28 : s28 1 8 = σ 1 8 := congrFun (hK28 1 (by omega) (by omega)) 8
  refine x_aload_n 32 C dX11_wall_31 rfl rfl rfl ?_
  refine x_getr (j := 7) 35 C rfl (lt79 (by decide)) rfl rfl (by decide) inT11 tb_2_180 rfl dX11_wall_32 rfl ?_
  refine x_iload_n 36 C dX11_wall_35 rfl rfl rfl ?_
  refine x_callVi 39 C dX11_wall_36 rfl (c_X3_leftOf (X := X) (s := s) hW28 (by omega) (HD_in hT hD28 (by omega)).1) rfl (lt79 (by decide)) rfl tb_3_201 tb_3_191 tb_3_192 tb_1_18 tb_3_193 (na := 1) (by decide +kernel) rfl ⟨by decide, by decide⟩ rfl (Nat.le_of_ble_eq_true rfl) rfl (fun z36 s36 hz36 hq36 hR36 => ?_)
  obtain ⟨k36, j36⟩ := hq36
  rw [LFT hD28 (hK28 9 (by omega) (by omega)) (congrFun (hK28 1 (by omega) (by omega)) 2) (by omega)] at j36
  have hK36 := Kp_trans hK28 (Kp_wide (lo' := 33) (hi' := 41) k36 (by omega) (by omega))
  have hW36 := CW_Kp hW hK36 (by omega)
  have e18_36 : s36 1 8 = σ 1 8 := congrFun (hK36 1 (by omega) (by omega)) 8
  have hD36 := HD_keep hD28 (k36 40 (by omega) (by omega)) (k36 41 (by omega) (by omega))
  refine x_istore_n3 40 C dX11_wall_39 rfl rfl ?_
  refine x_aload_n 41 C dX11_wall_40 rfl rfl rfl ?_
  refine x_getr (j := 7) 44 C rfl (lt79 (by decide)) rfl rfl (by decide) inT11 tb_2_180 rfl dX11_wall_41 rfl ?_
  refine x_iload_n 45 C dX11_wall_44 rfl rfl rfl ?_
  refine x_callVi 48 C dX11_wall_45 rfl (c_X3_leftOf (X := X) (s := q) hW36 (by omega) (HD_in hT hD36 (by omega)).1) rfl (lt79 (by decide)) rfl tb_3_201 tb_3_191 tb_3_192 tb_1_18 tb_3_193 (na := 1) (by decide +kernel) rfl ⟨by decide, by decide⟩ rfl (Nat.le_of_ble_eq_true rfl) rfl (fun z45 s45 hz45 hq45 hR45 => ?_)
  obtain ⟨k45, j45⟩ := hq45
  rw [LFT hD36 (hK36 9 (by omega) (by omega)) (congrFun (hK36 1 (by omega) (by omega)) 2) (by omega)] at j45
  have hK45 := Kp_trans hK36 (Kp_wide (lo' := 33) (hi' := 41) k45 (by omega) (by omega))
  have hW45 := CW_Kp hW hK45 (by omega)
  have e18_45 : s45 1 8 = σ 1 8 := congrFun (hK45 1 (by omega) (by omega)) 8
  have hD45 := HD_keep hD36 (k45 40 (by omega) (by omega)) (k45 41 (by omega) (by omega))
  refine x_istore_4 50 C dX11_wall_48 rfl rfl ?_
  refine x_iconst 51 C dX11_wall_50 rfl ?_
  refine x_istore_5 53 C dX11_wall_51 rfl rfl ?_
  refine x_iconst 54 C dX11_wall_53 rfl ?_
  refine x_istore_6 56 C dX11_wall_54 rfl rfl ?_
  have L56 : ∀ (mz : Nat) (c : Nat) (y ls fo : Int) (s1 : Sig), mz = 36 - c → (c ≤ 36 ∧ y = c ∧ Kp 33 41 σ s1 ∧ ls = (walF X (cT σ) s q c).2 ∧ fo = (walF X (cT σ) s q c).1) → Ex K G (NN tc) ρ (shp tc cl) 56 [some (.ref (ρ 0)), some (.int (iZ (s : Int))), some (.int (iZ (q : Int))), some (.int (iZ (leftT X (cT σ) s))), some (.int (iZ ls)), some (.int (iZ fo)), some (.int (iZ y))] [] s1 := by
    intro mz
    induction mz using Nat.strongRecOn with
    | ind mz ih =>
      intro c y ls fo s1 hmz hinv
      obtain ⟨hc, rfl, hK1, hls, hfo⟩ := hinv
      have hwi := walF_in (X := X) hTc (s := s) (o := q) c
      have hown := leftT_in (X := X) (s := s) hTc
      refine x_iload 58 C dX11_wall_56 rfl rfl ?_
      refine x_bipush 60 C dX11_wall_58 rfl rfl ?_
      refine x_icmp_ge 116 63 C dX11_wall_60 rfl rfl (by omega) (by omega) (fun h60 => ?_) (fun h60 => ?_)
      · refine x_iload 118 C dX11_wall_116 rfl rfl ?_
        refine x_iret C T dX11_wall_118 ?_
        refine PI_i (by omega) ⟨?_, ?_⟩
        · first | exact Kp_refl σ | exact hK1
        · unfold rWall
          first
            | (rw [if_neg (by rw [cT_18]; omega)]; done)
            | (rw [if_pos (by rw [cT_18]; omega), hss, hqq, show (36 : Nat) = c by omega]; exact hfo)
      have J110 : ∀ (ls3 fo3 : Int) (s3 : Sig), (Kp 33 41 σ s3 ∧ ls3 = (walF X (cT σ) s q (c + 1)).2 ∧ fo3 = (walF X (cT σ) s q (c + 1)).1) → Ex K G (NN tc) ρ (shp tc cl) 110 [some (.ref (ρ 0)), some (.int (iZ (s : Int))), some (.int (iZ (q : Int))), some (.int (iZ (leftT X (cT σ) s))), some (.int (iZ ls3)), some (.int (iZ fo3)), some (.int (iZ (c : Int)))] [] s3 := by
        intro ls3 fo3 s3 hinv
        obtain ⟨hK3, hls3, hfo3⟩ := hinv
        refine x_iinc_6 113 C dX11_wall_110 rfl rfl ?_
        refine x_goto 56 C dX11_wall_113 rfl ?_
        exact ih _ (by omega) (c + 1) _ _ _ _ rfl ⟨by omega, by omega, hK3, hls3, hfo3⟩
      refine x_aload_n 64 C dX11_wall_63 rfl rfl rfl ?_
      refine x_iload 66 C dX11_wall_64 rfl rfl ?_
      refine x_bipush 68 C dX11_wall_66 rfl rfl ?_
      refine x_callVv 71 C dX11_wall_68 rfl (c_X11_dawnWithHeight (X := X) (c := c) (h := 9) (CW_Kp hW hK1 (by omega)) (by omega) (by omega)) rfl (lt79 (by decide)) rfl tb_4_15 tb_4_17 tb_0_32 tb_1_1 tb_4_18 (na := 2) (by decide +kernel) rfl ⟨by decide, by decide⟩ rfl (Nat.le_of_ble_eq_true rfl) rfl (fun s68 hq68 hR68 => ?_)
      obtain ⟨kd, hD68⟩ := hq68
      have hK68 := Kp_trans hK1 kd
      have hW68 := CW_Kp hW hK68 (by omega)
      have e18_68 : s68 1 8 = σ 1 8 := congrFun (hK68 1 (by omega) (by omega)) 8
      have hT1 := TI_h (c := c) (v := 9) (Kp_TI hK1 (by omega) hT) (by omega)
      have eT1 : cT (up s1 2 c 9) = up (cT σ) 2 c 9 := by rw [cT_up2, Kp_cT hK1 (by omega)]
      have q9_68 : (up s1 2 c 9) 9 = s68 9 := by rw [up_row (by omega), kd 9 (by omega) (by omega)]
      have q12_68 : (up s1 2 c 9) 1 2 = s68 1 2 := by rw [up_r (by omega), kd 1 (by omega) (by omega)]
      have q18 : (up s1 2 c 9) 1 8 = σ 1 8 := by rw [up_r (by omega)]; exact congrFun (hK1 1 (by omega) (by omega)) 8
      refine x_aload_n 72 C dX11_wall_71 rfl rfl rfl ?_
      refine x_getr (j := 7) 75 C rfl (lt79 (by decide)) rfl rfl (by decide) inT11 tb_2_180 rfl dX11_wall_72 rfl ?_
      refine x_iload_n 76 C dX11_wall_75 rfl rfl rfl ?_
      refine x_callVi 79 C dX11_wall_76 rfl (c_X3_leftOf (X := X) (s := s) hW68 (by omega) (HD_in hT1 hD68 (by omega)).1) rfl (lt79 (by decide)) rfl tb_3_201 tb_3_191 tb_3_192 tb_1_18 tb_3_193 (na := 1) (by decide +kernel) rfl ⟨by decide, by decide⟩ rfl (Nat.le_of_ble_eq_true rfl) rfl (fun z76 s76 hz76 hq76 hR76 => ?_)
      obtain ⟨k76, j76⟩ := hq76
      rw [LFT hD68 q9_68.symm q12_68.symm (by omega), eT1] at j76
      have hK76 := Kp_trans hK68 (Kp_wide (lo' := 33) (hi' := 41) k76 (by omega) (by omega))
      have hW76 := CW_Kp hW hK76 (by omega)
      have e18_76 : s76 1 8 = σ 1 8 := congrFun (hK76 1 (by omega) (by omega)) 8
      have hD76 := HD_keep hD68 (k76 40 (by omega) (by omega)) (k76 41 (by omega) (by omega))
      have q9_76 : (up s1 2 c 9) 9 = s76 9 := by rw [q9_68, k76 9 (by omega) (by omega)]
      have q12_76 : (up s1 2 c 9) 1 2 = s76 1 2 := by rw [q12_68, k76 1 (by omega) (by omega)]
      refine x_iload_n 80 C dX11_wall_79 rfl rfl rfl ?_
      refine x_icmp_lt 110 83 C dX11_wall_80 rfl rfl (by omega) (by omega) (fun h80 => ?_) (fun h80 => ?_)
      · have hst : walF X (cT σ) s q (c + 1) = walF X (cT σ) s q c := by simp only [walF]; rw [if_neg (by omega)]
        first | exact J110 _ _ _ ⟨hK76, by rw [hst]; exact hls, by rw [hst]; exact hfo⟩ | exact J110 _ _ _ ⟨hK88, by rw [hst]; exact hls, by rw [hst]; exact hfo⟩ | exact J110 _ _ _ ⟨hK101, by rw [hst]; exact j101, by rw [hst]⟩
      refine x_aload_n 84 C dX11_wall_83 rfl rfl rfl ?_
      refine x_getr (j := 7) 87 C rfl (lt79 (by decide)) rfl rfl (by decide) inT11 tb_2_180 rfl dX11_wall_84 rfl ?_
      refine x_iload_n 88 C dX11_wall_87 rfl rfl rfl ?_
      refine x_callVi 91 C dX11_wall_88 rfl (c_X3_leftOf (X := X) (s := q) hW76 (by omega) (HD_in hT1 hD76 (by omega)).1) rfl (lt79 (by decide)) rfl tb_3_201 tb_3_191 tb_3_192 tb_1_18 tb_3_193 (na := 1) (by decide +kernel) rfl ⟨by decide, by decide⟩ rfl (Nat.le_of_ble_eq_true rfl) rfl (fun z88 s88 hz88 hq88 hR88 => ?_)
      obtain ⟨k88, j88⟩ := hq88
      rw [LFT hD76 q9_76.symm q12_76.symm (by omega), eT1] at j88
      have hK88 := Kp_trans hK76 (Kp_wide (lo' := 33) (hi' := 41) k88 (by omega) (by omega))
      have hW88 := CW_Kp hW hK88 (by omega)
      have e18_88 : s88 1 8 = σ 1 8 := congrFun (hK88 1 (by omega) (by omega)) 8
      have hD88 := HD_keep hD76 (k88 40 (by omega) (by omega)) (k88 41 (by omega) (by omega))
      have q9_88 : (up s1 2 c 9) 9 = s88 9 := by rw [q9_76, k88 9 (by omega) (by omega)]
      have q12_88 : (up s1 2 c 9) 1 2 = s88 1 2 := by rw [q12_76, k88 1 (by omega) (by omega)]
      refine x_iload 93 C dX11_wall_91 rfl rfl ?_
      refine x_icmp_ge 110 96 C dX11_wall_93 rfl rfl (by omega) (by omega) (fun h93 => ?_) (fun h93 => ?_)
      · have hst : walF X (cT σ) s q (c + 1) = walF X (cT σ) s q c := by simp only [walF]; rw [if_neg (by omega)]
        first | exact J110 _ _ _ ⟨hK76, by rw [hst]; exact hls, by rw [hst]; exact hfo⟩ | exact J110 _ _ _ ⟨hK88, by rw [hst]; exact hls, by rw [hst]; exact hfo⟩ | exact J110 _ _ _ ⟨hK101, by rw [hst]; exact j101, by rw [hst]⟩
      have hst : walF X (cT σ) s q (c + 1) = ((c : Int), leftT X (up (cT σ) 2 c 9) q) := by simp only [walF]; rw [if_pos (by omega)]
      refine x_aload_n 97 C dX11_wall_96 rfl rfl rfl ?_
      refine x_getr (j := 7) 100 C rfl (lt79 (by decide)) rfl rfl (by decide) inT11 tb_2_180 rfl dX11_wall_97 rfl ?_
      refine x_iload_n 101 C dX11_wall_100 rfl rfl rfl ?_
      refine x_callVi 104 C dX11_wall_101 rfl (c_X3_leftOf (X := X) (s := q) hW88 (by omega) (HD_in hT1 hD88 (by omega)).1) rfl (lt79 (by decide)) rfl tb_3_201 tb_3_191 tb_3_192 tb_1_18 tb_3_193 (na := 1) (by decide +kernel) rfl ⟨by decide, by decide⟩ rfl (Nat.le_of_ble_eq_true rfl) rfl (fun z101 s101 hz101 hq101 hR101 => ?_)
      obtain ⟨k101, j101⟩ := hq101
      rw [LFT hD88 q9_88.symm q12_88.symm (by omega), eT1] at j101
      have hK101 := Kp_trans hK88 (Kp_wide (lo' := 33) (hi' := 41) k101 (by omega) (by omega))
      have hW101 := CW_Kp hW hK101 (by omega)
      have e18_101 : s101 1 8 = σ 1 8 := congrFun (hK101 1 (by omega) (by omega)) 8
      have hD101 := HD_keep hD88 (k101 40 (by omega) (by omega)) (k101 41 (by omega) (by omega))
      have q9_101 : (up s1 2 c 9) 9 = s101 9 := by rw [q9_88, k101 9 (by omega) (by omega)]
      have q12_101 : (up s1 2 c 9) 1 2 = s101 1 2 := by rw [q12_88, k101 1 (by omega) (by omega)]
      refine x_istore_4 106 C dX11_wall_104 rfl rfl ?_
      refine x_iload 108 C dX11_wall_106 rfl rfl ?_
      refine x_istore_5 110 C dX11_wall_108 rfl rfl ?_
      first | exact J110 _ _ _ ⟨hK76, by rw [hst]; exact hls, by rw [hst]; exact hfo⟩ | exact J110 _ _ _ ⟨hK88, by rw [hst]; exact hls, by rw [hst]; exact hfo⟩ | exact J110 _ _ _ ⟨hK101, by rw [hst]; exact j101, by rw [hst]⟩
  rw [j36, j45]
  exact L56 _ 0 _ _ _ _ rfl ⟨by omega, rfl, hK45, rfl, rfl⟩

set_option maxHeartbeats 4000000 in
set_option maxRecDepth 100000 in
theorem c_X11_fell {l : Launch} {G : Gt} {ρ : Nat → Nat} {tc : Nat} {cl : Nat → Nat} {σ : Sig} {X : Nat → RuT} {v : Int} (hW : CW X tc cl σ) (hv : -2147483648 ≤ v ∧ v ≤ 2147483647) : MX l yX11_fell cX11_fell 5 (some .int) 7 173 G (NN tc) ρ (shp tc cl) [.ref (ρ 0), .int (iZ v)] σ (PI (fun z σ' => Kp 33 41 σ σ' ∧ z = rFell X (cT σ) v)) := by
  refine MX_of [some (.ref (ρ 0)), some (.int (iZ v)), none, none, none] (by decide +kernel) rfl rfl (Nat.le_of_ble_eq_true rfl) ?_
  intro K hKl C T hRng
  subst hKl
  have hT := hW.1
  have h3 := hT.2.2.1
  have h8 := hT.2.2.2.1
  have hTc := TI_cT hT
  refine x_aload_n 1 C dX11_fell_0 rfl rfl rfl ?_
  refine x_iload_n 2 C dX11_fell_1 rfl rfl rfl ?_
  refine x_callVe 5 C dX11_fell_2 rfl (c_X11_isSleeper (by omega)) rfl (lt79 (by decide)) rfl tb_3_54 tb_3_56 tb_0_16 tb_1_1 tb_3_57 (na := 1) (by decide +kernel) rfl ⟨by decide, by decide⟩ rfl (Nat.le_of_ble_eq_true rfl) rfl (fun r2 => ?_)
  first
    | refine x_ifb_ne 11 8 C dX11_fell_5 rfl rfl (fun h5 => ?_) (fun h5 => ?_)
    | refine x_if_ne 11 8 C dX11_fell_5 rfl rfl (by omega) (fun h5 => ?_) (fun h5 => ?_)
  · obtain ⟨s, rfl⟩ : ∃ s : Nat, v = (s : Int) := ⟨v.toNat, by omega⟩
    have hss : (s : Int).toNat = s := Int.toNat_natCast s
    refine x_aload_n 12 C dX11_fell_11 rfl rfl rfl ?_
    refine x_getr (j := 7) 15 C rfl (lt79 (by decide)) rfl rfl (by decide) inT11 tb_2_180 rfl dX11_fell_12 rfl ?_
    refine x_callVv 18 C dX11_fell_15 rfl (c_X3_dawn hW) rfl (lt79 (by decide)) rfl tb_3_156 tb_3_157 tb_3_158 tb_1_18 tb_3_159 (na := 0) (by decide +kernel) rfl ⟨by decide, by decide⟩ rfl (Nat.le_of_ble_eq_true rfl) rfl (fun s15 hq15 hR15 => ?_)
    obtain ⟨hK15, kk15, hD15⟩ := hq15
    have hW15 := CW_Kp hW hK15 (by omega)
    have e18_15 : s15 1 8 = σ 1 8 := congrFun (hK15 1 (by omega) (by omega)) 8
    refine x_aload_n 19 C dX11_fell_18 rfl rfl rfl ?_
    refine x_getr (j := 7) 22 C rfl (lt79 (by decide)) rfl rfl (by decide) inT11 tb_2_180 rfl dX11_fell_19 rfl ?_
    refine x_iload_n 23 C dX11_fell_22 rfl rfl rfl ?_
    refine x_callVi 26 C dX11_fell_23 rfl (c_X3_leftOf (X := X) (s := s) hW15 (by omega) (HD_in hT hD15 (by omega)).1) rfl (lt79 (by decide)) rfl tb_3_201 tb_3_191 tb_3_192 tb_1_18 tb_3_193 (na := 1) (by decide +kernel) rfl ⟨by decide, by decide⟩ rfl (Nat.le_of_ble_eq_true rfl) rfl (fun z23 s23 hz23 hq23 hR23 => ?_)
    obtain ⟨k23, j23⟩ := hq23
    rw [LFT hD15 (hK15 9 (by omega) (by omega)) (congrFun (hK15 1 (by omega) (by omega)) 2) (by omega)] at j23
    have hK23 := Kp_trans hK15 (Kp_wide (lo' := 33) (hi' := 41) k23 (by omega) (by omega))
    have hW23 := CW_Kp hW hK23 (by omega)
    have e18_23 : s23 1 8 = σ 1 8 := congrFun (hK23 1 (by omega) (by omega)) 8
    have hD23 := HD_keep hD15 (k23 40 (by omega) (by omega)) (k23 41 (by omega) (by omega))
    refine x_istore_n2 27 C dX11_fell_26 rfl rfl ?_
    refine x_iconst 28 C dX11_fell_27 rfl ?_
    refine x_istore_n3 29 C dX11_fell_28 rfl rfl ?_
    refine x_iconst 30 C dX11_fell_29 rfl ?_
    refine x_istore_4 32 C dX11_fell_30 rfl rfl ?_
    have L32 : ∀ (mz : Nat) (c : Nat) (y ls fo : Int) (s1 : Sig), mz = 36 - c → (c ≤ 36 ∧ y = c ∧ Kp 33 41 σ s1 ∧ ls = (felF X (cT σ) s c).2 ∧ fo = (felF X (cT σ) s c).1) → Ex K G (NN tc) ρ (shp tc cl) 32 [some (.ref (ρ 0)), some (.int (iZ (s : Int))), some (.int (iZ ls)), some (.int (iZ fo)), some (.int (iZ y))] [] s1 := by
      intro mz
      induction mz using Nat.strongRecOn with
      | ind mz ih =>
        intro c y ls fo s1 hmz hinv
        obtain ⟨hc, rfl, hK1, hls, hfo⟩ := hinv
        have hwi := felF_in (X := X) hTc (s := s) c
        refine x_iload 34 C dX11_fell_32 rfl rfl ?_
        refine x_bipush 36 C dX11_fell_34 rfl rfl ?_
        refine x_icmp_ge 76 39 C dX11_fell_36 rfl rfl (by omega) (by omega) (fun h36 => ?_) (fun h36 => ?_)
        · refine x_iload_n 77 C dX11_fell_76 rfl rfl rfl ?_
          refine x_iret C T dX11_fell_77 ?_
          refine PI_i (by omega) ⟨?_, ?_⟩
          · first | exact Kp_refl σ | exact hK1
          · unfold rFell
            first
              | (rw [if_neg (by rw [cT_18]; omega)]; done)
              | (rw [if_pos (by rw [cT_18]; omega), hss, show (36 : Nat) = c by omega]; exact hfo)
        have J70 : ∀ (ls3 fo3 : Int) (s3 : Sig), (Kp 33 41 σ s3 ∧ ls3 = (felF X (cT σ) s (c + 1)).2 ∧ fo3 = (felF X (cT σ) s (c + 1)).1) → Ex K G (NN tc) ρ (shp tc cl) 70 [some (.ref (ρ 0)), some (.int (iZ (s : Int))), some (.int (iZ ls3)), some (.int (iZ fo3)), some (.int (iZ (c : Int)))] [] s3 := by
          intro ls3 fo3 s3 hinv
          obtain ⟨hK3, hls3, hfo3⟩ := hinv
          refine x_iinc_4 73 C dX11_fell_70 rfl rfl ?_
          refine x_goto 32 C dX11_fell_73 rfl ?_
          exact ih _ (by omega) (c + 1) _ _ _ _ rfl ⟨by omega, by omega, hK3, hls3, hfo3⟩
        refine x_aload_n 40 C dX11_fell_39 rfl rfl rfl ?_
        refine x_iload 42 C dX11_fell_40 rfl rfl ?_
        refine x_iconst 43 C dX11_fell_42 rfl ?_
        refine x_callVv 46 C dX11_fell_43 rfl (c_X11_dawnWithHeight (X := X) (c := c) (h := 0) (CW_Kp hW hK1 (by omega)) (by omega) (by omega)) rfl (lt79 (by decide)) rfl tb_4_15 tb_4_17 tb_0_32 tb_1_1 tb_4_18 (na := 2) (by decide +kernel) rfl ⟨by decide, by decide⟩ rfl (Nat.le_of_ble_eq_true rfl) rfl (fun s43 hq43 hR43 => ?_)
        obtain ⟨kd, hD43⟩ := hq43
        have hK43 := Kp_trans hK1 kd
        have hW43 := CW_Kp hW hK43 (by omega)
        have e18_43 : s43 1 8 = σ 1 8 := congrFun (hK43 1 (by omega) (by omega)) 8
        have hT1 := TI_h (c := c) (v := 0) (Kp_TI hK1 (by omega) hT) (by omega)
        have eT1 : cT (up s1 2 c 0) = up (cT σ) 2 c 0 := by rw [cT_up2, Kp_cT hK1 (by omega)]
        have q9_43 : (up s1 2 c 0) 9 = s43 9 := by rw [up_row (by omega), kd 9 (by omega) (by omega)]
        have q12_43 : (up s1 2 c 0) 1 2 = s43 1 2 := by rw [up_r (by omega), kd 1 (by omega) (by omega)]
        have q18 : (up s1 2 c 0) 1 8 = σ 1 8 := by rw [up_r (by omega)]; exact congrFun (hK1 1 (by omega) (by omega)) 8
        refine x_aload_n 47 C dX11_fell_46 rfl rfl rfl ?_
        refine x_getr (j := 7) 50 C rfl (lt79 (by decide)) rfl rfl (by decide) inT11 tb_2_180 rfl dX11_fell_47 rfl ?_
        refine x_iload_n 51 C dX11_fell_50 rfl rfl rfl ?_
        refine x_callVi 54 C dX11_fell_51 rfl (c_X3_leftOf (X := X) (s := s) hW43 (by omega) (HD_in hT1 hD43 (by omega)).1) rfl (lt79 (by decide)) rfl tb_3_201 tb_3_191 tb_3_192 tb_1_18 tb_3_193 (na := 1) (by decide +kernel) rfl ⟨by decide, by decide⟩ rfl (Nat.le_of_ble_eq_true rfl) rfl (fun z51 s51 hz51 hq51 hR51 => ?_)
        obtain ⟨k51, j51⟩ := hq51
        rw [LFT hD43 q9_43.symm q12_43.symm (by omega), eT1] at j51
        have hK51 := Kp_trans hK43 (Kp_wide (lo' := 33) (hi' := 41) k51 (by omega) (by omega))
        have hW51 := CW_Kp hW hK51 (by omega)
        have e18_51 : s51 1 8 = σ 1 8 := congrFun (hK51 1 (by omega) (by omega)) 8
        have hD51 := HD_keep hD43 (k51 40 (by omega) (by omega)) (k51 41 (by omega) (by omega))
        have q9_51 : (up s1 2 c 0) 9 = s51 9 := by rw [q9_43, k51 9 (by omega) (by omega)]
        have q12_51 : (up s1 2 c 0) 1 2 = s51 1 2 := by rw [q12_43, k51 1 (by omega) (by omega)]
        refine x_iload_n 55 C dX11_fell_54 rfl rfl rfl ?_
        refine x_icmp_le 70 58 C dX11_fell_55 rfl rfl (by omega) (by omega) (fun h55 => ?_) (fun h55 => ?_)
        · have hst : felF X (cT σ) s (c + 1) = felF X (cT σ) s c := by simp only [felF]; rw [if_neg (by omega)]
          first | exact J70 _ _ _ ⟨hK51, by rw [hst]; exact hls, by rw [hst]; exact hfo⟩ | exact J70 _ _ _ ⟨hK63, by rw [hst]; exact j63, by rw [hst]⟩
        have hst : felF X (cT σ) s (c + 1) = ((c : Int), leftT X (up (cT σ) 2 c 0) s) := by simp only [felF]; rw [if_pos (by omega)]
        refine x_aload_n 59 C dX11_fell_58 rfl rfl rfl ?_
        refine x_getr (j := 7) 62 C rfl (lt79 (by decide)) rfl rfl (by decide) inT11 tb_2_180 rfl dX11_fell_59 rfl ?_
        refine x_iload_n 63 C dX11_fell_62 rfl rfl rfl ?_
        refine x_callVi 66 C dX11_fell_63 rfl (c_X3_leftOf (X := X) (s := s) hW51 (by omega) (HD_in hT1 hD51 (by omega)).1) rfl (lt79 (by decide)) rfl tb_3_201 tb_3_191 tb_3_192 tb_1_18 tb_3_193 (na := 1) (by decide +kernel) rfl ⟨by decide, by decide⟩ rfl (Nat.le_of_ble_eq_true rfl) rfl (fun z63 s63 hz63 hq63 hR63 => ?_)
        obtain ⟨k63, j63⟩ := hq63
        rw [LFT hD51 q9_51.symm q12_51.symm (by omega), eT1] at j63
        have hK63 := Kp_trans hK51 (Kp_wide (lo' := 33) (hi' := 41) k63 (by omega) (by omega))
        have hW63 := CW_Kp hW hK63 (by omega)
        have e18_63 : s63 1 8 = σ 1 8 := congrFun (hK63 1 (by omega) (by omega)) 8
        have hD63 := HD_keep hD51 (k63 40 (by omega) (by omega)) (k63 41 (by omega) (by omega))
        have q9_63 : (up s1 2 c 0) 9 = s63 9 := by rw [q9_51, k63 9 (by omega) (by omega)]
        have q12_63 : (up s1 2 c 0) 1 2 = s63 1 2 := by rw [q12_51, k63 1 (by omega) (by omega)]
        refine x_istore_n2 67 C dX11_fell_66 rfl rfl ?_
        refine x_iload 69 C dX11_fell_67 rfl rfl ?_
        refine x_istore_n3 70 C dX11_fell_69 rfl rfl ?_
        first | exact J70 _ _ _ ⟨hK51, by rw [hst]; exact hls, by rw [hst]; exact hfo⟩ | exact J70 _ _ _ ⟨hK63, by rw [hst]; exact j63, by rw [hst]⟩
    rw [j23]
    exact L32 _ 0 _ _ _ _ rfl ⟨by omega, rfl, hK23, rfl, rfl⟩
  refine x_bipush 10 C dX11_fell_8 rfl rfl ?_
  refine x_iret C T dX11_fell_10 ?_
  refine PI_i (by omega) ⟨?_, ?_⟩
  · first | exact Kp_refl σ | exact hK1
  · unfold rFell
    first
      | (rw [if_neg (by rw [cT_18]; omega)]; done)
      | (rw [if_pos (by rw [cT_18]; omega), hss, show (36 : Nat) = c by omega]; exact hfo)
