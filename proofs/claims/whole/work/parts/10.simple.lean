theorem PI_i {q : Int → Sig → Prop} {z : Int} {σ : Sig} (hz : -2147483648 ≤ z ∧ z ≤ 2147483647) (h : q z σ) : PI q (some (.int (iZ z))) σ := ⟨z, rfl, hz, h⟩
theorem PV_i {q : Sig → Prop} {σ : Sig} (h : q σ) : PV q none σ := ⟨rfl, h⟩
theorem PR_i {ρ : Nat → Nat} {q : Nat → Sig → Prop} {k : Nat} {σ : Sig} (h : q k σ) : PR ρ q (some (.ref (ρ k))) σ := ⟨k, rfl, h⟩
set_option maxHeartbeats 4000000 in
set_option maxRecDepth 100000 in
theorem c_X11_isWithin {l : Launch} {G : Gt} {ρ : Nat → Nat} {tc : Nat} {cl : Nat → Nat} {σ : Sig} {v b : Int} (hv : -2147483648 ≤ v ∧ v ≤ 2147483647) (hb : -2147483648 ≤ b ∧ b ≤ 2147483647) : MX l yX11_isWithin cX11_isWithin 2 (some .boolean) 0 0 G (NN tc) ρ (shp tc cl) [.int (iZ v), .int (iZ b)] σ (PE σ (b2 (0 ≤ v ∧ v < b))) := by
  refine MX_of [some (.int (iZ v)), some (.int (iZ b))] (by decide +kernel) rfl rfl (Nat.le_of_ble_eq_true rfl) ?_
  intro K hKl C T hRng
  subst hKl
  refine x_iload_n 1 C dX11_isWithin_0 rfl rfl rfl ?_
  refine x_if_lt 13 4 C dX11_isWithin_1 rfl rfl (by omega) (fun h1 => ?_) (fun h1 => ?_)
  · refine x_iconst 14 C dX11_isWithin_13 rfl ?_
    refine x_zret C T dX11_isWithin_14 (by omega) ?_
    exact PE_i (by unfold b2; split <;> omega) (by omega)
  refine x_iload_n 5 C dX11_isWithin_4 rfl rfl rfl ?_
  refine x_iload_n 6 C dX11_isWithin_5 rfl rfl rfl ?_
  refine x_icmp_ge 13 9 C dX11_isWithin_6 rfl rfl (by omega) (by omega) (fun h6 => ?_) (fun h6 => ?_)
  · refine x_iconst 14 C dX11_isWithin_13 rfl ?_
    refine x_zret C T dX11_isWithin_14 (by omega) ?_
    exact PE_i (by unfold b2; split <;> omega) (by omega)
  refine x_iconst 10 C dX11_isWithin_9 rfl ?_
  refine x_goto 14 C dX11_isWithin_10 rfl ?_
  refine x_zret C T dX11_isWithin_14 (by omega) ?_
  exact PE_i (by unfold b2; split <;> omega) (by omega)

set_option maxHeartbeats 4000000 in
set_option maxRecDepth 100000 in
theorem c_X11_high {l : Launch} {G : Gt} {ρ : Nat → Nat} {tc : Nat} {cl : Nat → Nat} {σ : Sig} {v : Int} (hv : -2147483648 ≤ v ∧ v ≤ 2147483647) : MX l yX11_high cX11_high 2 (some .int) 1 21 G (NN tc) ρ (shp tc cl) [.ref (ρ 0), .int (iZ v)] σ (PE σ (if 0 ≤ v ∧ v < 36 then σ 2 v.toNat else -2)) := by
  refine MX_of [some (.ref (ρ 0)), some (.int (iZ v))] (by decide +kernel) rfl rfl (Nat.le_of_ble_eq_true rfl) ?_
  intro K hKl C T hRng
  subst hKl
  refine x_iload_n 1 C dX11_high_0 rfl rfl rfl ?_
  refine x_bipush 3 C dX11_high_1 rfl rfl ?_
  refine x_callSe 6 C dX11_high_3 rfl (c_X11_isWithin (by omega) (by omega)) tb_2_214 tb_2_215 tb_1_1 tb_2_216 (na := 2) (by decide +kernel) rfl ⟨by decide, by decide⟩ rfl (Nat.le_of_ble_eq_true rfl) rfl (fun r3 => ?_)
  first
    | refine x_ifb_eq 21 9 C dX11_high_6 rfl rfl (fun h6 => ?_) (fun h6 => ?_)
    | refine x_if_eq 21 9 C dX11_high_6 rfl rfl (by omega) (fun h6 => ?_) (fun h6 => ?_)
  · refine x_bipush 23 C dX11_high_21 rfl rfl ?_
    refine x_iret C T dX11_high_23 ?_
    exact PE_i (by first | rw [if_pos (by omega)] | rw [if_neg (by omega)]) (by omega)
  refine x_aload_n 10 C dX11_high_9 rfl rfl rfl ?_
  refine x_getr (j := 0) 13 C rfl (lt79 (by decide)) rfl rfl (by decide) inT11 tb_2_173 rfl dX11_high_10 rfl ?_
  refine x_getr (j := 0) 16 C rfl (lt79 (by decide)) rfl rfl (by decide) inT9 tb_1_36 rfl dX11_high_13 rfl ?_
  refine x_iload_n 17 C dX11_high_16 rfl rfl rfl ?_
  refine x_iald 18 C rfl (lt79 (by decide)) dX11_high_17 rfl (by omega) (by omega) (fun r17 => ?_)
  refine x_goto 23 C dX11_high_18 rfl ?_
  refine x_iret C T dX11_high_23 ?_
  exact PE_i (by first | rw [if_pos (by omega)] | rw [if_neg (by omega)]) (by omega)

def rX_town (σ : Sig) (a b c : Int) : Int := if a = 0 ∧ 0 ≤ b ∧ b < 36 ∧ 0 ≤ c ∧ c ≤ 9 then σ 2 b.toNat else if a = 1 ∧ 0 ≤ c ∧ c ≤ 9 then σ 1 1 else -2
def nX_town (σ : Sig) (a b c : Int) : Sig := if a = 0 ∧ 0 ≤ b ∧ b < 36 ∧ 0 ≤ c ∧ c ≤ 9 then up σ 2 b.toNat c else if a = 1 ∧ 0 ≤ c ∧ c ≤ 9 then up σ 1 1 c else σ
set_option maxHeartbeats 4000000 in
set_option maxRecDepth 100000 in
theorem c_X11_town {l : Launch} {G : Gt} {ρ : Nat → Nat} {tc : Nat} {cl : Nat → Nat} {σ : Sig} {a b c : Int} (ha : -2147483648 ≤ a ∧ a ≤ 2147483647) (hb : -2147483648 ≤ b ∧ b ≤ 2147483647) (hc : -2147483648 ≤ c ∧ c ≤ 2147483647) : MX l yX11_town cX11_town 5 (some .int) 1 21 G (NN tc) ρ (shp tc cl) [.ref (ρ 0), .int (iZ a), .int (iZ b), .int (iZ c)] σ (PI (fun z σ' => z = rX_town σ a b c ∧ σ' = nX_town σ a b c)) := by
  refine MX_of [some (.ref (ρ 0)), some (.int (iZ a)), some (.int (iZ b)), some (.int (iZ c)), none] (by decide +kernel) rfl rfl (Nat.le_of_ble_eq_true rfl) ?_
  intro K hKl C T hRng
  subst hKl
  refine x_iload_n 1 C dX11_town_0 rfl rfl rfl ?_
  first
    | refine x_ifb_ne 46 4 C dX11_town_1 rfl rfl (fun h1 => ?_) (fun h1 => ?_)
    | refine x_if_ne 46 4 C dX11_town_1 rfl rfl (by omega) (fun h1 => ?_) (fun h1 => ?_)
  · refine x_iload_n 47 C dX11_town_46 rfl rfl rfl ?_
    refine x_iconst 48 C dX11_town_47 rfl ?_
    refine x_icmp_ne 80 51 C dX11_town_48 rfl rfl (by omega) (by omega) (fun h48 => ?_) (fun h48 => ?_)
    · refine x_bipush 82 C dX11_town_80 rfl rfl ?_
      refine x_iret C T dX11_town_82 ?_
      refine PI_i (by omega) ?_
      unfold rX_town nX_town
      refine ⟨?_, ?_⟩ <;> (first | (exfalso; omega) | rw [if_pos (by omega)] | rw [if_neg (by omega), if_pos (by omega)] | rw [if_neg (by omega), if_neg (by omega)])
    refine x_iload_n 52 C dX11_town_51 rfl rfl rfl ?_
    refine x_bipush 54 C dX11_town_52 rfl rfl ?_
    refine x_callSe 57 C dX11_town_54 rfl (c_X11_isWithin (by omega) (by omega)) tb_2_214 tb_2_215 tb_1_1 tb_2_216 (na := 2) (by decide +kernel) rfl ⟨by decide, by decide⟩ rfl (Nat.le_of_ble_eq_true rfl) rfl (fun r54 => ?_)
    first
      | refine x_ifb_eq 80 60 C dX11_town_57 rfl rfl (fun h57 => ?_) (fun h57 => ?_)
      | refine x_if_eq 80 60 C dX11_town_57 rfl rfl (by omega) (fun h57 => ?_) (fun h57 => ?_)
    · refine x_bipush 82 C dX11_town_80 rfl rfl ?_
      refine x_iret C T dX11_town_82 ?_
      refine PI_i (by omega) ?_
      unfold rX_town nX_town
      refine ⟨?_, ?_⟩ <;> (first | (exfalso; omega) | rw [if_pos (by omega)] | rw [if_neg (by omega), if_pos (by omega)] | rw [if_neg (by omega), if_neg (by omega)])
    refine x_aload_n 61 C dX11_town_60 rfl rfl rfl ?_
    refine x_getr (j := 0) 64 C rfl (lt79 (by decide)) rfl rfl (by decide) inT11 tb_2_173 rfl dX11_town_61 rfl ?_
    refine x_geti (j := 1) 67 C rfl (lt79 (by decide)) rfl rfl (by decide) inT9 tb_1_38 rfl dX11_town_64 rfl (fun r64 => ?_)
    refine x_istore_4 69 C dX11_town_67 rfl rfl ?_
    refine x_aload_n 70 C dX11_town_69 rfl rfl rfl ?_
    refine x_getr (j := 0) 73 C rfl (lt79 (by decide)) rfl rfl (by decide) inT11 tb_2_173 rfl dX11_town_70 rfl ?_
    refine x_iload_n 74 C dX11_town_73 rfl rfl rfl ?_
    refine x_puti (j := 1) tyX9 77 C rfl (lt79 (by decide)) rfl rfl (by decide) inT9 tyX9_ok nmX9 tb_1_38 rfl rfl rfl dX11_town_74 rfl (by omega) ?_
    refine x_iload 79 C dX11_town_77 rfl rfl ?_
    refine x_iret C T dX11_town_79 ?_
    refine PI_i (by omega) ?_
    unfold rX_town nX_town
    refine ⟨?_, ?_⟩ <;> (first | (exfalso; omega) | rw [if_pos (by omega)] | rw [if_neg (by omega), if_pos (by omega)] | rw [if_neg (by omega), if_neg (by omega)])
  refine x_iload_n 5 C dX11_town_4 rfl rfl rfl ?_
  refine x_bipush 7 C dX11_town_5 rfl rfl ?_
  refine x_callSe 10 C dX11_town_7 rfl (c_X11_isWithin (by omega) (by omega)) tb_2_214 tb_2_215 tb_1_1 tb_2_216 (na := 2) (by decide +kernel) rfl ⟨by decide, by decide⟩ rfl (Nat.le_of_ble_eq_true rfl) rfl (fun r7 => ?_)
  first
    | refine x_ifb_eq 46 13 C dX11_town_10 rfl rfl (fun h10 => ?_) (fun h10 => ?_)
    | refine x_if_eq 46 13 C dX11_town_10 rfl rfl (by omega) (fun h10 => ?_) (fun h10 => ?_)
  · refine x_iload_n 47 C dX11_town_46 rfl rfl rfl ?_
    refine x_iconst 48 C dX11_town_47 rfl ?_
    refine x_icmp_ne 80 51 C dX11_town_48 rfl rfl (by omega) (by omega) (fun h48 => ?_) (fun h48 => ?_)
    · refine x_bipush 82 C dX11_town_80 rfl rfl ?_
      refine x_iret C T dX11_town_82 ?_
      refine PI_i (by omega) ?_
      unfold rX_town nX_town
      refine ⟨?_, ?_⟩ <;> (first | (exfalso; omega) | rw [if_pos (by omega)] | rw [if_neg (by omega), if_pos (by omega)] | rw [if_neg (by omega), if_neg (by omega)])
    refine x_iload_n 52 C dX11_town_51 rfl rfl rfl ?_
    refine x_bipush 54 C dX11_town_52 rfl rfl ?_
    refine x_callSe 57 C dX11_town_54 rfl (c_X11_isWithin (by omega) (by omega)) tb_2_214 tb_2_215 tb_1_1 tb_2_216 (na := 2) (by decide +kernel) rfl ⟨by decide, by decide⟩ rfl (Nat.le_of_ble_eq_true rfl) rfl (fun r54 => ?_)
    first
      | refine x_ifb_eq 80 60 C dX11_town_57 rfl rfl (fun h57 => ?_) (fun h57 => ?_)
      | refine x_if_eq 80 60 C dX11_town_57 rfl rfl (by omega) (fun h57 => ?_) (fun h57 => ?_)
    · refine x_bipush 82 C dX11_town_80 rfl rfl ?_
      refine x_iret C T dX11_town_82 ?_
      refine PI_i (by omega) ?_
      unfold rX_town nX_town
      refine ⟨?_, ?_⟩ <;> (first | (exfalso; omega) | rw [if_pos (by omega)] | rw [if_neg (by omega), if_pos (by omega)] | rw [if_neg (by omega), if_neg (by omega)])
    refine x_aload_n 61 C dX11_town_60 rfl rfl rfl ?_
    refine x_getr (j := 0) 64 C rfl (lt79 (by decide)) rfl rfl (by decide) inT11 tb_2_173 rfl dX11_town_61 rfl ?_
    refine x_geti (j := 1) 67 C rfl (lt79 (by decide)) rfl rfl (by decide) inT9 tb_1_38 rfl dX11_town_64 rfl (fun r64 => ?_)
    refine x_istore_4 69 C dX11_town_67 rfl rfl ?_
    refine x_aload_n 70 C dX11_town_69 rfl rfl rfl ?_
    refine x_getr (j := 0) 73 C rfl (lt79 (by decide)) rfl rfl (by decide) inT11 tb_2_173 rfl dX11_town_70 rfl ?_
    refine x_iload_n 74 C dX11_town_73 rfl rfl rfl ?_
    refine x_puti (j := 1) tyX9 77 C rfl (lt79 (by decide)) rfl rfl (by decide) inT9 tyX9_ok nmX9 tb_1_38 rfl rfl rfl dX11_town_74 rfl (by omega) ?_
    refine x_iload 79 C dX11_town_77 rfl rfl ?_
    refine x_iret C T dX11_town_79 ?_
    refine PI_i (by omega) ?_
    unfold rX_town nX_town
    refine ⟨?_, ?_⟩ <;> (first | (exfalso; omega) | rw [if_pos (by omega)] | rw [if_neg (by omega), if_pos (by omega)] | rw [if_neg (by omega), if_neg (by omega)])
  refine x_iload_n 14 C dX11_town_13 rfl rfl rfl ?_
  refine x_bipush 16 C dX11_town_14 rfl rfl ?_
  refine x_callSe 19 C dX11_town_16 rfl (c_X11_isWithin (by omega) (by omega)) tb_2_214 tb_2_215 tb_1_1 tb_2_216 (na := 2) (by decide +kernel) rfl ⟨by decide, by decide⟩ rfl (Nat.le_of_ble_eq_true rfl) rfl (fun r16 => ?_)
  first
    | refine x_ifb_eq 46 22 C dX11_town_19 rfl rfl (fun h19 => ?_) (fun h19 => ?_)
    | refine x_if_eq 46 22 C dX11_town_19 rfl rfl (by omega) (fun h19 => ?_) (fun h19 => ?_)
  rotate_left
  · refine x_aload_n 23 C dX11_town_22 rfl rfl rfl ?_
    refine x_getr (j := 0) 26 C rfl (lt79 (by decide)) rfl rfl (by decide) inT11 tb_2_173 rfl dX11_town_23 rfl ?_
    refine x_getr (j := 0) 29 C rfl (lt79 (by decide)) rfl rfl (by decide) inT9 tb_1_36 rfl dX11_town_26 rfl ?_
    refine x_iload_n 30 C dX11_town_29 rfl rfl rfl ?_
    refine x_iald 31 C rfl (lt79 (by decide)) dX11_town_30 rfl (by omega) (by omega) (fun r30 => ?_)
    refine x_istore_4 33 C dX11_town_31 rfl rfl ?_
    refine x_aload_n 34 C dX11_town_33 rfl rfl rfl ?_
    refine x_getr (j := 0) 37 C rfl (lt79 (by decide)) rfl rfl (by decide) inT11 tb_2_173 rfl dX11_town_34 rfl ?_
    refine x_getr (j := 0) 40 C rfl (lt79 (by decide)) rfl rfl (by decide) inT9 tb_1_36 rfl dX11_town_37 rfl ?_
    refine x_iload_n 41 C dX11_town_40 rfl rfl rfl ?_
    refine x_iload_n 42 C dX11_town_41 rfl rfl rfl ?_
    refine x_iast 43 C rfl (lt79 (by decide)) dX11_town_42 rfl (by omega) (by omega) (by omega) ?_
    refine x_iload 45 C dX11_town_43 rfl rfl ?_
    refine x_iret C T dX11_town_45 ?_
    refine PI_i (by omega) ?_
    unfold rX_town nX_town
    refine ⟨?_, ?_⟩ <;> (first | (exfalso; omega) | rw [if_pos (by omega)] | rw [if_neg (by omega), if_pos (by omega)] | rw [if_neg (by omega), if_neg (by omega)])
  refine x_iload_n 47 C dX11_town_46 rfl rfl rfl ?_
  refine x_iconst 48 C dX11_town_47 rfl ?_
  refine x_icmp_ne 80 51 C dX11_town_48 rfl rfl (by omega) (by omega) (fun h48 => ?_) (fun h48 => ?_)
  · refine x_bipush 82 C dX11_town_80 rfl rfl ?_
    refine x_iret C T dX11_town_82 ?_
    refine PI_i (by omega) ?_
    unfold rX_town nX_town
    refine ⟨?_, ?_⟩ <;> (first | (exfalso; omega) | rw [if_pos (by omega)] | rw [if_neg (by omega), if_pos (by omega)] | rw [if_neg (by omega), if_neg (by omega)])
  refine x_iload_n 52 C dX11_town_51 rfl rfl rfl ?_
  refine x_bipush 54 C dX11_town_52 rfl rfl ?_
  refine x_callSe 57 C dX11_town_54 rfl (c_X11_isWithin (by omega) (by omega)) tb_2_214 tb_2_215 tb_1_1 tb_2_216 (na := 2) (by decide +kernel) rfl ⟨by decide, by decide⟩ rfl (Nat.le_of_ble_eq_true rfl) rfl (fun r54 => ?_)
  first
    | refine x_ifb_eq 80 60 C dX11_town_57 rfl rfl (fun h57 => ?_) (fun h57 => ?_)
    | refine x_if_eq 80 60 C dX11_town_57 rfl rfl (by omega) (fun h57 => ?_) (fun h57 => ?_)
  · refine x_bipush 82 C dX11_town_80 rfl rfl ?_
    refine x_iret C T dX11_town_82 ?_
    refine PI_i (by omega) ?_
    unfold rX_town nX_town
    refine ⟨?_, ?_⟩ <;> (first | (exfalso; omega) | rw [if_pos (by omega)] | rw [if_neg (by omega), if_pos (by omega)] | rw [if_neg (by omega), if_neg (by omega)])
  refine x_aload_n 61 C dX11_town_60 rfl rfl rfl ?_
  refine x_getr (j := 0) 64 C rfl (lt79 (by decide)) rfl rfl (by decide) inT11 tb_2_173 rfl dX11_town_61 rfl ?_
  refine x_geti (j := 1) 67 C rfl (lt79 (by decide)) rfl rfl (by decide) inT9 tb_1_38 rfl dX11_town_64 rfl (fun r64 => ?_)
  refine x_istore_4 69 C dX11_town_67 rfl rfl ?_
  refine x_aload_n 70 C dX11_town_69 rfl rfl rfl ?_
  refine x_getr (j := 0) 73 C rfl (lt79 (by decide)) rfl rfl (by decide) inT11 tb_2_173 rfl dX11_town_70 rfl ?_
  refine x_iload_n 74 C dX11_town_73 rfl rfl rfl ?_
  refine x_puti (j := 1) tyX9 77 C rfl (lt79 (by decide)) rfl rfl (by decide) inT9 tyX9_ok nmX9 tb_1_38 rfl rfl rfl dX11_town_74 rfl (by omega) ?_
  refine x_iload 79 C dX11_town_77 rfl rfl ?_
  refine x_iret C T dX11_town_79 ?_
  refine PI_i (by omega) ?_
  unfold rX_town nX_town
  refine ⟨?_, ?_⟩ <;> (first | (exfalso; omega) | rw [if_pos (by omega)] | rw [if_neg (by omega), if_pos (by omega)] | rw [if_neg (by omega), if_neg (by omega)])

def mostF (q : Int) : Int := ([35, 99, 9, 5, 35, 3, 23, 99] : List Int).getD q.toNat 0
theorem mostF_in {q : Int} (h : 0 ≤ q ∧ q < 8) : 0 ≤ mostF q ∧ mostF q ≤ 99 := by
  have : q = 0 ∨ q = 1 ∨ q = 2 ∨ q = 3 ∨ q = 4 ∨ q = 5 ∨ q = 6 ∨ q = 7 := by omega
  rcases this with rfl | rfl | rfl | rfl | rfl | rfl | rfl | rfl <;> decide
theorem mostF_0 : mostF 0 = 35 := rfl
theorem mostF_1 : mostF 1 = 99 := rfl
theorem mostF_2 : mostF 2 = 9 := rfl
theorem mostF_3 : mostF 3 = 5 := rfl
theorem mostF_4 : mostF 4 = 35 := rfl
theorem mostF_5 : mostF 5 = 3 := rfl
theorem mostF_6 : mostF 6 = 23 := rfl
theorem mostF_7 : mostF 7 = 99 := rfl
set_option maxHeartbeats 4000000 in
set_option maxRecDepth 100000 in
theorem c_X11_fits {l : Launch} {G : Gt} {ρ : Nat → Nat} {tc : Nat} {cl : Nat → Nat} {σ : Sig} {q v : Int} (hq : 0 ≤ q ∧ q < 8) (hv : -2147483648 ≤ v ∧ v ≤ 2147483647) : MX l yX11_fits cX11_fits 2 (some .boolean) 0 0 G (NN tc) ρ (shp tc cl) [.int (iZ q), .int (iZ v)] σ (PE σ (b2 (0 ≤ v ∧ v ≤ mostF q))) := by
  refine MX_of [some (.int (iZ q)), some (.int (iZ v))] (by decide +kernel) rfl rfl (Nat.le_of_ble_eq_true rfl) ?_
  intro K hKl C T hRng
  subst hKl
  have hm := mostF_in hq
  refine x_iload_n 1 C dX11_fits_0 rfl rfl rfl ?_
  refine x_if_lt 17 4 C dX11_fits_1 rfl rfl (by omega) (fun h1 => ?_) (fun h1 => ?_)
  · refine x_iconst 18 C dX11_fits_17 rfl ?_
    refine x_zret C T dX11_fits_18 (by omega) ?_
    exact PE_i (by unfold b2; split <;> omega) (by omega)
  refine x_iload_n 5 C dX11_fits_4 rfl rfl rfl ?_
  refine x_getsM 8 C tb_2_228 dX11_fits_5 rfl ?_
  refine x_iload_n 9 C dX11_fits_8 rfl rfl rfl ?_
  refine x_taldM 10 C dX11_fits_9 rfl (by omega) ?_
  change Ex K G (NN tc) ρ (shp tc cl) 10 _ (.int (iZ (mostF q)) :: _) σ
  refine x_icmp_gt 17 13 C dX11_fits_10 rfl rfl (by omega) (by omega) (fun h10 => ?_) (fun h10 => ?_)
  · refine x_iconst 18 C dX11_fits_17 rfl ?_
    refine x_zret C T dX11_fits_18 (by omega) ?_
    exact PE_i (by unfold b2; split <;> omega) (by omega)
  refine x_iconst 14 C dX11_fits_13 rfl ?_
  refine x_goto 18 C dX11_fits_14 rfl ?_
  refine x_zret C T dX11_fits_18 (by omega) ?_
  exact PE_i (by unfold b2; split <;> omega) (by omega)

def rX_thing (σ : Sig) (k h w : Int) : Int := if 0 ≤ k ∧ k ≤ 5 ∧ 0 ≤ h ∧ h ≤ 35 ∧ 0 ≤ w ∧ w ≤ 999 then (if σ 1 3 < 6 then σ 1 3 else -4) else -2
def nX_thing (σ : Sig) (k h w : Int) : Sig := if 0 ≤ k ∧ k ≤ 5 ∧ 0 ≤ h ∧ h ≤ 35 ∧ 0 ≤ w ∧ w ≤ 999 then (if σ 1 3 < 6 then up (up (up (up (up σ 6 (σ 1 3).toNat k) 3 (σ 1 3).toNat h) 4 (σ 1 3).toNat (w / 10)) 5 (σ 1 3).toNat (w % 10)) 1 3 (σ 1 3 + 1) else σ) else σ
set_option maxHeartbeats 4000000 in
set_option maxRecDepth 100000 in
theorem c_X11_thing {l : Launch} {G : Gt} {ρ : Nat → Nat} {tc : Nat} {cl : Nat → Nat} {σ : Sig} {k h w : Int} (hk : -2147483648 ≤ k ∧ k ≤ 2147483647) (hh : -2147483648 ≤ h ∧ h ≤ 2147483647) (hw : -2147483648 ≤ w ∧ w ≤ 2147483647) (hT : TI σ) : MX l yX11_thing cX11_thing 5 (some .int) 1 21 G (NN tc) ρ (shp tc cl) [.ref (ρ 0), .int (iZ k), .int (iZ h), .int (iZ w)] σ (PI (fun z σ' => z = rX_thing σ k h w ∧ σ' = nX_thing σ k h w)) := by
  refine MX_of [some (.ref (ρ 0)), some (.int (iZ k)), some (.int (iZ h)), some (.int (iZ w)), none] (by decide +kernel) rfl rfl (Nat.le_of_ble_eq_true rfl) ?_
  intro K hKl C T hRng
  subst hKl
  have hq := hT.2.2.1
  have m0 := mostF_0; have m1 := mostF_1; have m3 := mostF_3
  refine x_iconst 1 C dX11_thing_0 rfl ?_
  refine x_iload_n 2 C dX11_thing_1 rfl rfl rfl ?_
  refine x_callSe 5 C dX11_thing_2 rfl (c_X11_fits (by omega) (by omega)) tb_2_225 tb_2_226 tb_1_1 tb_2_227 (na := 2) (by decide +kernel) rfl ⟨by decide, by decide⟩ rfl (Nat.le_of_ble_eq_true rfl) rfl (fun r2 => ?_)
  first
    | refine x_ifb_eq 31 8 C dX11_thing_5 rfl rfl (fun h5 => ?_) (fun h5 => ?_)
    | refine x_if_eq 31 8 C dX11_thing_5 rfl rfl (by omega) (fun h5 => ?_) (fun h5 => ?_)
  · refine x_bipush 33 C dX11_thing_31 rfl rfl ?_
    refine x_iret C T dX11_thing_33 ?_
    refine PI_i (by omega) ?_
    unfold rX_thing nX_thing
    refine ⟨?_, ?_⟩ <;> (first | rw [if_neg (by omega)] | rw [if_pos (by omega), if_pos (by omega)] | rw [if_pos (by omega), if_neg (by omega)])
  refine x_iconst 9 C dX11_thing_8 rfl ?_
  refine x_iload_n 10 C dX11_thing_9 rfl rfl rfl ?_
  refine x_callSe 13 C dX11_thing_10 rfl (c_X11_fits (by omega) (by omega)) tb_2_225 tb_2_226 tb_1_1 tb_2_227 (na := 2) (by decide +kernel) rfl ⟨by decide, by decide⟩ rfl (Nat.le_of_ble_eq_true rfl) rfl (fun r10 => ?_)
  first
    | refine x_ifb_eq 31 16 C dX11_thing_13 rfl rfl (fun h13 => ?_) (fun h13 => ?_)
    | refine x_if_eq 31 16 C dX11_thing_13 rfl rfl (by omega) (fun h13 => ?_) (fun h13 => ?_)
  · refine x_bipush 33 C dX11_thing_31 rfl rfl ?_
    refine x_iret C T dX11_thing_33 ?_
    refine PI_i (by omega) ?_
    unfold rX_thing nX_thing
    refine ⟨?_, ?_⟩ <;> (first | rw [if_neg (by omega)] | rw [if_pos (by omega), if_pos (by omega)] | rw [if_pos (by omega), if_neg (by omega)])
  refine x_iload_n 17 C dX11_thing_16 rfl rfl rfl ?_
  refine x_if_lt 31 20 C dX11_thing_17 rfl rfl (by omega) (fun h17 => ?_) (fun h17 => ?_)
  · refine x_bipush 33 C dX11_thing_31 rfl rfl ?_
    refine x_iret C T dX11_thing_33 ?_
    refine PI_i (by omega) ?_
    unfold rX_thing nX_thing
    refine ⟨?_, ?_⟩ <;> (first | rw [if_neg (by omega)] | rw [if_pos (by omega), if_pos (by omega)] | rw [if_pos (by omega), if_neg (by omega)])
  refine x_iconst 21 C dX11_thing_20 rfl ?_
  refine x_iload_n 22 C dX11_thing_21 rfl rfl rfl ?_
  refine x_bipush 24 C dX11_thing_22 rfl rfl ?_
  refine x_idiv 25 C dX11_thing_24 rfl (by omega) (by omega) ?_
  refine x_callSe 28 C dX11_thing_25 rfl (c_X11_fits (by omega) (by omega)) tb_2_225 tb_2_226 tb_1_1 tb_2_227 (na := 2) (by decide +kernel) rfl ⟨by decide, by decide⟩ rfl (Nat.le_of_ble_eq_true rfl) rfl (fun r25 => ?_)
  first
    | refine x_ifb_ne 34 31 C dX11_thing_28 rfl rfl (fun h28 => ?_) (fun h28 => ?_)
    | refine x_if_ne 34 31 C dX11_thing_28 rfl rfl (by omega) (fun h28 => ?_) (fun h28 => ?_)
  rotate_left
  · refine x_bipush 33 C dX11_thing_31 rfl rfl ?_
    refine x_iret C T dX11_thing_33 ?_
    refine PI_i (by omega) ?_
    unfold rX_thing nX_thing
    refine ⟨?_, ?_⟩ <;> (first | rw [if_neg (by omega)] | rw [if_pos (by omega), if_pos (by omega)] | rw [if_pos (by omega), if_neg (by omega)])
  refine x_aload_n 35 C dX11_thing_34 rfl rfl rfl ?_
  refine x_getr (j := 0) 38 C rfl (lt79 (by decide)) rfl rfl (by decide) inT11 tb_2_173 rfl dX11_thing_35 rfl ?_
  refine x_geti (j := 3) 41 C rfl (lt79 (by decide)) rfl rfl (by decide) inT9 tb_1_45 rfl dX11_thing_38 rfl (fun r38 => ?_)
  refine x_bipush 43 C dX11_thing_41 rfl rfl ?_
  refine x_icmp_lt 49 46 C dX11_thing_43 rfl rfl (by omega) (by omega) (fun h43 => ?_) (fun h43 => ?_)
  rotate_left
  · refine x_bipush 48 C dX11_thing_46 rfl rfl ?_
    refine x_iret C T dX11_thing_48 ?_
    refine PI_i (by omega) ?_
    unfold rX_thing nX_thing
    refine ⟨?_, ?_⟩ <;> (first | rw [if_neg (by omega)] | rw [if_pos (by omega), if_pos (by omega)] | rw [if_pos (by omega), if_neg (by omega)])
  refine x_aload_n 50 C dX11_thing_49 rfl rfl rfl ?_
  refine x_getr (j := 0) 53 C rfl (lt79 (by decide)) rfl rfl (by decide) inT11 tb_2_173 rfl dX11_thing_50 rfl ?_
  refine x_geti (j := 3) 56 C rfl (lt79 (by decide)) rfl rfl (by decide) inT9 tb_1_45 rfl dX11_thing_53 rfl (fun r53 => ?_)
  refine x_istore_4 58 C dX11_thing_56 rfl rfl ?_
  refine x_aload_n 59 C dX11_thing_58 rfl rfl rfl ?_
  refine x_getr (j := 0) 62 C rfl (lt79 (by decide)) rfl rfl (by decide) inT11 tb_2_173 rfl dX11_thing_59 rfl ?_
  refine x_getr (j := 7) 65 C rfl (lt79 (by decide)) rfl rfl (by decide) inT9 tb_1_57 rfl dX11_thing_62 rfl ?_
  refine x_iload 67 C dX11_thing_65 rfl rfl ?_
  refine x_iload_n 68 C dX11_thing_67 rfl rfl rfl ?_
  refine x_iast 69 C rfl (lt79 (by decide)) dX11_thing_68 rfl (by omega) (by omega) (by omega) ?_
  refine x_aload_n 70 C dX11_thing_69 rfl rfl rfl ?_
  refine x_getr (j := 0) 73 C rfl (lt79 (by decide)) rfl rfl (by decide) inT11 tb_2_173 rfl dX11_thing_70 rfl ?_
  refine x_getr (j := 4) 76 C rfl (lt79 (by decide)) rfl rfl (by decide) inT9 tb_1_48 rfl dX11_thing_73 rfl ?_
  refine x_iload 78 C dX11_thing_76 rfl rfl ?_
  refine x_iload_n 79 C dX11_thing_78 rfl rfl rfl ?_
  refine x_iast 80 C rfl (lt79 (by decide)) dX11_thing_79 rfl (by omega) (by omega) (by omega) ?_
  refine x_aload_n 81 C dX11_thing_80 rfl rfl rfl ?_
  refine x_getr (j := 0) 84 C rfl (lt79 (by decide)) rfl rfl (by decide) inT11 tb_2_173 rfl dX11_thing_81 rfl ?_
  refine x_getr (j := 5) 87 C rfl (lt79 (by decide)) rfl rfl (by decide) inT9 tb_1_51 rfl dX11_thing_84 rfl ?_
  refine x_iload 89 C dX11_thing_87 rfl rfl ?_
  refine x_iload_n 90 C dX11_thing_89 rfl rfl rfl ?_
  refine x_bipush 92 C dX11_thing_90 rfl rfl ?_
  refine x_idiv 93 C dX11_thing_92 rfl (by omega) (by omega) ?_
  refine x_iast 94 C rfl (lt79 (by decide)) dX11_thing_93 rfl (by omega) (by omega) (by omega) ?_
  refine x_aload_n 95 C dX11_thing_94 rfl rfl rfl ?_
  refine x_getr (j := 0) 98 C rfl (lt79 (by decide)) rfl rfl (by decide) inT11 tb_2_173 rfl dX11_thing_95 rfl ?_
  refine x_getr (j := 6) 101 C rfl (lt79 (by decide)) rfl rfl (by decide) inT9 tb_1_54 rfl dX11_thing_98 rfl ?_
  refine x_iload 103 C dX11_thing_101 rfl rfl ?_
  refine x_iload_n 104 C dX11_thing_103 rfl rfl rfl ?_
  refine x_bipush 106 C dX11_thing_104 rfl rfl ?_
  refine x_irem 107 C dX11_thing_106 rfl (by omega) (by omega) ?_
  refine x_iast 108 C rfl (lt79 (by decide)) dX11_thing_107 rfl (by omega) (by omega) (by omega) ?_
  refine x_aload_n 109 C dX11_thing_108 rfl rfl rfl ?_
  refine x_getr (j := 0) 112 C rfl (lt79 (by decide)) rfl rfl (by decide) inT11 tb_2_173 rfl dX11_thing_109 rfl ?_
  refine x_iload 114 C dX11_thing_112 rfl rfl ?_
  refine x_iconst 115 C dX11_thing_114 rfl ?_
  refine x_iadd 116 C dX11_thing_115 rfl ?_
  refine x_puti (j := 3) tyX9 119 C rfl (lt79 (by decide)) rfl rfl (by decide) inT9 tyX9_ok nmX9 tb_1_45 rfl rfl rfl dX11_thing_116 rfl (by omega) ?_
  refine x_iload 121 C dX11_thing_119 rfl rfl ?_
  refine x_iret C T dX11_thing_121 ?_
  refine PI_i (by omega) ?_
  unfold rX_thing nX_thing
  refine ⟨?_, ?_⟩ <;> (first | rw [if_neg (by omega)] | rw [if_pos (by omega), if_pos (by omega)] | rw [if_pos (by omega), if_neg (by omega)])

def rX_sleeper (σ : Sig) (c w g : Int) : Int := if 0 ≤ c ∧ c ≤ 35 ∧ 0 ≤ w ∧ w / 10 ≤ 23 ∧ w % 10 ≤ 3 ∧ 0 ≤ g ∧ g ≤ 99 then (if σ 1 8 < 5 then σ 1 8 else -4) else -2
def nX_sleeper (σ : Sig) (c w g : Int) : Sig := if 0 ≤ c ∧ c ≤ 35 ∧ 0 ≤ w ∧ w / 10 ≤ 23 ∧ w % 10 ≤ 3 ∧ 0 ≤ g ∧ g ≤ 99 then (if σ 1 8 < 5 then up (up (up (up (up σ 7 (σ 1 8).toNat c) 9 (σ 1 8).toNat (w / 10)) 8 (σ 1 8).toNat (w % 10)) 10 (σ 1 8).toNat g) 1 8 (σ 1 8 + 1) else σ) else σ
set_option maxHeartbeats 4000000 in
set_option maxRecDepth 100000 in
theorem c_X11_sleeper {l : Launch} {G : Gt} {ρ : Nat → Nat} {tc : Nat} {cl : Nat → Nat} {σ : Sig} {c w g : Int} (hk : -2147483648 ≤ c ∧ c ≤ 2147483647) (hh : -2147483648 ≤ w ∧ w ≤ 2147483647) (hw : -2147483648 ≤ g ∧ g ≤ 2147483647) (hT : TI σ) : MX l yX11_sleeper cX11_sleeper 5 (some .int) 1 21 G (NN tc) ρ (shp tc cl) [.ref (ρ 0), .int (iZ c), .int (iZ w), .int (iZ g)] σ (PI (fun z σ' => z = rX_sleeper σ c w g ∧ σ' = nX_sleeper σ c w g)) := by
  refine MX_of [some (.ref (ρ 0)), some (.int (iZ c)), some (.int (iZ w)), some (.int (iZ g)), none] (by decide +kernel) rfl rfl (Nat.le_of_ble_eq_true rfl) ?_
  intro K hKl C T hRng
  subst hKl
  have hq := hT.2.2.2.1
  have m0 := mostF_4; have m1 := mostF_5; have m3 := mostF_6; have m4 := mostF_7
  refine x_iconst 1 C dX11_sleeper_0 rfl ?_
  refine x_iload_n 2 C dX11_sleeper_1 rfl rfl rfl ?_
  refine x_callSe 5 C dX11_sleeper_2 rfl (c_X11_fits (by omega) (by omega)) tb_2_225 tb_2_226 tb_1_1 tb_2_227 (na := 2) (by decide +kernel) rfl ⟨by decide, by decide⟩ rfl (Nat.le_of_ble_eq_true rfl) rfl (fun r2 => ?_)
  first
    | refine x_ifb_eq 44 8 C dX11_sleeper_5 rfl rfl (fun h5 => ?_) (fun h5 => ?_)
    | refine x_if_eq 44 8 C dX11_sleeper_5 rfl rfl (by omega) (fun h5 => ?_) (fun h5 => ?_)
  · refine x_bipush 46 C dX11_sleeper_44 rfl rfl ?_
    refine x_iret C T dX11_sleeper_46 ?_
    refine PI_i (by omega) ?_
    unfold rX_sleeper nX_sleeper
    refine ⟨?_, ?_⟩ <;> (first | rw [if_neg (by omega)] | rw [if_pos (by omega), if_pos (by omega)] | rw [if_pos (by omega), if_neg (by omega)])
  refine x_iload_n 9 C dX11_sleeper_8 rfl rfl rfl ?_
  refine x_if_lt 44 12 C dX11_sleeper_9 rfl rfl (by omega) (fun h9 => ?_) (fun h9 => ?_)
  · refine x_bipush 46 C dX11_sleeper_44 rfl rfl ?_
    refine x_iret C T dX11_sleeper_46 ?_
    refine PI_i (by omega) ?_
    unfold rX_sleeper nX_sleeper
    refine ⟨?_, ?_⟩ <;> (first | rw [if_neg (by omega)] | rw [if_pos (by omega), if_pos (by omega)] | rw [if_pos (by omega), if_neg (by omega)])
  refine x_bipush 14 C dX11_sleeper_12 rfl rfl ?_
  refine x_iload_n 15 C dX11_sleeper_14 rfl rfl rfl ?_
  refine x_bipush 17 C dX11_sleeper_15 rfl rfl ?_
  refine x_idiv 18 C dX11_sleeper_17 rfl (by omega) (by omega) ?_
  refine x_callSe 21 C dX11_sleeper_18 rfl (c_X11_fits (by omega) (by omega)) tb_2_225 tb_2_226 tb_1_1 tb_2_227 (na := 2) (by decide +kernel) rfl ⟨by decide, by decide⟩ rfl (Nat.le_of_ble_eq_true rfl) rfl (fun r18 => ?_)
  first
    | refine x_ifb_eq 44 24 C dX11_sleeper_21 rfl rfl (fun h21 => ?_) (fun h21 => ?_)
    | refine x_if_eq 44 24 C dX11_sleeper_21 rfl rfl (by omega) (fun h21 => ?_) (fun h21 => ?_)
  · refine x_bipush 46 C dX11_sleeper_44 rfl rfl ?_
    refine x_iret C T dX11_sleeper_46 ?_
    refine PI_i (by omega) ?_
    unfold rX_sleeper nX_sleeper
    refine ⟨?_, ?_⟩ <;> (first | rw [if_neg (by omega)] | rw [if_pos (by omega), if_pos (by omega)] | rw [if_pos (by omega), if_neg (by omega)])
  refine x_iconst 25 C dX11_sleeper_24 rfl ?_
  refine x_iload_n 26 C dX11_sleeper_25 rfl rfl rfl ?_
  refine x_bipush 28 C dX11_sleeper_26 rfl rfl ?_
  refine x_irem 29 C dX11_sleeper_28 rfl (by omega) (by omega) ?_
  refine x_callSe 32 C dX11_sleeper_29 rfl (c_X11_fits (by omega) (by omega)) tb_2_225 tb_2_226 tb_1_1 tb_2_227 (na := 2) (by decide +kernel) rfl ⟨by decide, by decide⟩ rfl (Nat.le_of_ble_eq_true rfl) rfl (fun r29 => ?_)
  first
    | refine x_ifb_eq 44 35 C dX11_sleeper_32 rfl rfl (fun h32 => ?_) (fun h32 => ?_)
    | refine x_if_eq 44 35 C dX11_sleeper_32 rfl rfl (by omega) (fun h32 => ?_) (fun h32 => ?_)
  · refine x_bipush 46 C dX11_sleeper_44 rfl rfl ?_
    refine x_iret C T dX11_sleeper_46 ?_
    refine PI_i (by omega) ?_
    unfold rX_sleeper nX_sleeper
    refine ⟨?_, ?_⟩ <;> (first | rw [if_neg (by omega)] | rw [if_pos (by omega), if_pos (by omega)] | rw [if_pos (by omega), if_neg (by omega)])
  refine x_bipush 37 C dX11_sleeper_35 rfl rfl ?_
  refine x_iload_n 38 C dX11_sleeper_37 rfl rfl rfl ?_
  refine x_callSe 41 C dX11_sleeper_38 rfl (c_X11_fits (by omega) (by omega)) tb_2_225 tb_2_226 tb_1_1 tb_2_227 (na := 2) (by decide +kernel) rfl ⟨by decide, by decide⟩ rfl (Nat.le_of_ble_eq_true rfl) rfl (fun r38 => ?_)
  first
    | refine x_ifb_ne 47 44 C dX11_sleeper_41 rfl rfl (fun h41 => ?_) (fun h41 => ?_)
    | refine x_if_ne 47 44 C dX11_sleeper_41 rfl rfl (by omega) (fun h41 => ?_) (fun h41 => ?_)
  rotate_left
  · refine x_bipush 46 C dX11_sleeper_44 rfl rfl ?_
    refine x_iret C T dX11_sleeper_46 ?_
    refine PI_i (by omega) ?_
    unfold rX_sleeper nX_sleeper
    refine ⟨?_, ?_⟩ <;> (first | rw [if_neg (by omega)] | rw [if_pos (by omega), if_pos (by omega)] | rw [if_pos (by omega), if_neg (by omega)])
  refine x_aload_n 48 C dX11_sleeper_47 rfl rfl rfl ?_
  refine x_getr (j := 0) 51 C rfl (lt79 (by decide)) rfl rfl (by decide) inT11 tb_2_173 rfl dX11_sleeper_48 rfl ?_
  refine x_geti (j := 8) 54 C rfl (lt79 (by decide)) rfl rfl (by decide) inT9 tb_1_61 rfl dX11_sleeper_51 rfl (fun r51 => ?_)
  refine x_iconst 55 C dX11_sleeper_54 rfl ?_
  refine x_icmp_lt 61 58 C dX11_sleeper_55 rfl rfl (by omega) (by omega) (fun h55 => ?_) (fun h55 => ?_)
  rotate_left
  · refine x_bipush 60 C dX11_sleeper_58 rfl rfl ?_
    refine x_iret C T dX11_sleeper_60 ?_
    refine PI_i (by omega) ?_
    unfold rX_sleeper nX_sleeper
    refine ⟨?_, ?_⟩ <;> (first | rw [if_neg (by omega)] | rw [if_pos (by omega), if_pos (by omega)] | rw [if_pos (by omega), if_neg (by omega)])
  refine x_aload_n 62 C dX11_sleeper_61 rfl rfl rfl ?_
  refine x_getr (j := 0) 65 C rfl (lt79 (by decide)) rfl rfl (by decide) inT11 tb_2_173 rfl dX11_sleeper_62 rfl ?_
  refine x_geti (j := 8) 68 C rfl (lt79 (by decide)) rfl rfl (by decide) inT9 tb_1_61 rfl dX11_sleeper_65 rfl (fun r65 => ?_)
  refine x_istore_4 70 C dX11_sleeper_68 rfl rfl ?_
  refine x_aload_n 71 C dX11_sleeper_70 rfl rfl rfl ?_
  refine x_getr (j := 0) 74 C rfl (lt79 (by decide)) rfl rfl (by decide) inT11 tb_2_173 rfl dX11_sleeper_71 rfl ?_
  refine x_getr (j := 9) 77 C rfl (lt79 (by decide)) rfl rfl (by decide) inT9 tb_1_63 rfl dX11_sleeper_74 rfl ?_
  refine x_iload 79 C dX11_sleeper_77 rfl rfl ?_
  refine x_iload_n 80 C dX11_sleeper_79 rfl rfl rfl ?_
  refine x_iast 81 C rfl (lt79 (by decide)) dX11_sleeper_80 rfl (by omega) (by omega) (by omega) ?_
  refine x_aload_n 82 C dX11_sleeper_81 rfl rfl rfl ?_
  refine x_getr (j := 0) 85 C rfl (lt79 (by decide)) rfl rfl (by decide) inT11 tb_2_173 rfl dX11_sleeper_82 rfl ?_
  refine x_getr (j := 11) 88 C rfl (lt79 (by decide)) rfl rfl (by decide) inT9 tb_1_70 rfl dX11_sleeper_85 rfl ?_
  refine x_iload 90 C dX11_sleeper_88 rfl rfl ?_
  refine x_iload_n 91 C dX11_sleeper_90 rfl rfl rfl ?_
  refine x_bipush 93 C dX11_sleeper_91 rfl rfl ?_
  refine x_idiv 94 C dX11_sleeper_93 rfl (by omega) (by omega) ?_
  refine x_iast 95 C rfl (lt79 (by decide)) dX11_sleeper_94 rfl (by omega) (by omega) (by omega) ?_
  refine x_aload_n 96 C dX11_sleeper_95 rfl rfl rfl ?_
  refine x_getr (j := 0) 99 C rfl (lt79 (by decide)) rfl rfl (by decide) inT11 tb_2_173 rfl dX11_sleeper_96 rfl ?_
  refine x_getr (j := 10) 102 C rfl (lt79 (by decide)) rfl rfl (by decide) inT9 tb_1_67 rfl dX11_sleeper_99 rfl ?_
  refine x_iload 104 C dX11_sleeper_102 rfl rfl ?_
  refine x_iload_n 105 C dX11_sleeper_104 rfl rfl rfl ?_
  refine x_bipush 107 C dX11_sleeper_105 rfl rfl ?_
  refine x_irem 108 C dX11_sleeper_107 rfl (by omega) (by omega) ?_
  refine x_iast 109 C rfl (lt79 (by decide)) dX11_sleeper_108 rfl (by omega) (by omega) (by omega) ?_
  refine x_aload_n 110 C dX11_sleeper_109 rfl rfl rfl ?_
  refine x_getr (j := 0) 113 C rfl (lt79 (by decide)) rfl rfl (by decide) inT11 tb_2_173 rfl dX11_sleeper_110 rfl ?_
  refine x_getr (j := 12) 116 C rfl (lt79 (by decide)) rfl rfl (by decide) inT9 tb_1_72 rfl dX11_sleeper_113 rfl ?_
  refine x_iload 118 C dX11_sleeper_116 rfl rfl ?_
  refine x_iload_n 119 C dX11_sleeper_118 rfl rfl rfl ?_
  refine x_iast 120 C rfl (lt79 (by decide)) dX11_sleeper_119 rfl (by omega) (by omega) (by omega) ?_
  refine x_aload_n 121 C dX11_sleeper_120 rfl rfl rfl ?_
  refine x_getr (j := 0) 124 C rfl (lt79 (by decide)) rfl rfl (by decide) inT11 tb_2_173 rfl dX11_sleeper_121 rfl ?_
  refine x_iload 126 C dX11_sleeper_124 rfl rfl ?_
  refine x_iconst 127 C dX11_sleeper_126 rfl ?_
  refine x_iadd 128 C dX11_sleeper_127 rfl ?_
  refine x_puti (j := 8) tyX9 131 C rfl (lt79 (by decide)) rfl rfl (by decide) inT9 tyX9_ok nmX9 tb_1_61 rfl rfl rfl dX11_sleeper_128 rfl (by omega) ?_
  refine x_iload 133 C dX11_sleeper_131 rfl rfl ?_
  refine x_iret C T dX11_sleeper_133 ?_
  refine PI_i (by omega) ?_
  unfold rX_sleeper nX_sleeper
  refine ⟨?_, ?_⟩ <;> (first | rw [if_neg (by omega)] | rw [if_pos (by omega), if_pos (by omega)] | rw [if_pos (by omega), if_neg (by omega)])

set_option maxHeartbeats 4000000 in
set_option maxRecDepth 100000 in
theorem c_X9_row {l : Launch} {G : Gt} {ρ : Nat → Nat} {tc : Nat} {cl : Nat → Nat} {σ : Sig} {q : Int} (hq : 0 ≤ q ∧ q < 8) : MX l yX9_row cX9_row 2 (some (.array .int)) 0 0 G (NN tc) ρ (shp tc cl) [.ref (ρ 1), .int (iZ q)] σ (PR ρ (fun k σ' => σ = σ' ∧ k = 3 + q.toNat)) := by
  refine MX_of [some (.ref (ρ 1)), some (.int (iZ q))] (by decide +kernel) rfl rfl (Nat.le_of_ble_eq_true rfl) ?_
  intro K hKl C T hRng
  subst hKl
  refine x_iload_n 1 C dX9_row_0 rfl rfl rfl ?_
  refine x_tab 79 [44, 49, 54, 59, 64, 69, 74] C dX9_row_1 rfl (by decide) (by decide) (by omega) (fun h1 => ?_) (fun j hj h1 => ?_)
  · refine x_aload_n 80 C dX9_row_79 rfl rfl rfl ?_
    refine x_getr (j := 12) 83 C rfl (lt79 (by decide)) rfl rfl (by decide) inT9 tb_1_71 rfl dX9_row_80 rfl ?_
    refine x_aret C T dX9_row_83 (by simp) ?_
    exact PR_i ⟨rfl, by omega⟩
  match j, hj with
  | 0, hj =>
    refine x_aload_n 45 C dX9_row_44 rfl rfl rfl ?_
    refine x_getr (j := 4) 48 C rfl (lt79 (by decide)) rfl rfl (by decide) inT9 tb_1_47 rfl dX9_row_45 rfl ?_
    refine x_aret C T dX9_row_48 (by simp) ?_
    exact PR_i ⟨rfl, by omega⟩
  | 1, hj =>
    refine x_aload_n 50 C dX9_row_49 rfl rfl rfl ?_
    refine x_getr (j := 5) 53 C rfl (lt79 (by decide)) rfl rfl (by decide) inT9 tb_1_50 rfl dX9_row_50 rfl ?_
    refine x_aret C T dX9_row_53 (by simp) ?_
    exact PR_i ⟨rfl, by omega⟩
  | 2, hj =>
    refine x_aload_n 55 C dX9_row_54 rfl rfl rfl ?_
    refine x_getr (j := 6) 58 C rfl (lt79 (by decide)) rfl rfl (by decide) inT9 tb_1_53 rfl dX9_row_55 rfl ?_
    refine x_aret C T dX9_row_58 (by simp) ?_
    exact PR_i ⟨rfl, by omega⟩
  | 3, hj =>
    refine x_aload_n 60 C dX9_row_59 rfl rfl rfl ?_
    refine x_getr (j := 7) 63 C rfl (lt79 (by decide)) rfl rfl (by decide) inT9 tb_1_56 rfl dX9_row_60 rfl ?_
    refine x_aret C T dX9_row_63 (by simp) ?_
    exact PR_i ⟨rfl, by omega⟩
  | 4, hj =>
    refine x_aload_n 65 C dX9_row_64 rfl rfl rfl ?_
    refine x_getr (j := 9) 68 C rfl (lt79 (by decide)) rfl rfl (by decide) inT9 tb_1_62 rfl dX9_row_65 rfl ?_
    refine x_aret C T dX9_row_68 (by simp) ?_
    exact PR_i ⟨rfl, by omega⟩
  | 5, hj =>
    refine x_aload_n 70 C dX9_row_69 rfl rfl rfl ?_
    refine x_getr (j := 10) 73 C rfl (lt79 (by decide)) rfl rfl (by decide) inT9 tb_1_65 rfl dX9_row_70 rfl ?_
    refine x_aret C T dX9_row_73 (by simp) ?_
    exact PR_i ⟨rfl, by omega⟩
  | 6, hj =>
    refine x_aload_n 75 C dX9_row_74 rfl rfl rfl ?_
    refine x_getr (j := 11) 78 C rfl (lt79 (by decide)) rfl rfl (by decide) inT9 tb_1_68 rfl dX9_row_75 rfl ?_
    refine x_aret C T dX9_row_78 (by simp) ?_
    exact PR_i ⟨rfl, by omega⟩
  | j + 7, hj => exact absurd hj (by simp)

set_option maxHeartbeats 4000000 in
set_option maxRecDepth 100000 in
theorem c_X9_owns {l : Launch} {G : Gt} {ρ : Nat → Nat} {tc : Nat} {cl : Nat → Nat} {σ : Sig} {q v : Int} (hq : 0 ≤ q ∧ q < 8) (hv : -2147483648 ≤ v ∧ v ≤ 2147483647) : MX l yX9_owns cX9_owns 3 (some .boolean) 1 21 G (NN tc) ρ (shp tc cl) [.ref (ρ 1), .int (iZ q), .int (iZ v)] σ (PE σ (b2 (0 ≤ v ∧ v < (if q ≤ 3 then σ 1 3 else σ 1 8)))) := by
  refine MX_of [some (.ref (ρ 1)), some (.int (iZ q)), some (.int (iZ v))] (by decide +kernel) rfl rfl (Nat.le_of_ble_eq_true rfl) ?_
  intro K hKl C T hRng
  subst hKl
  refine x_iload_n 1 C dX9_owns_0 rfl rfl rfl ?_
  refine x_iload_n 2 C dX9_owns_1 rfl rfl rfl ?_
  refine x_iconst 3 C dX9_owns_2 rfl ?_
  refine x_icmp_gt 13 6 C dX9_owns_3 rfl rfl (by omega) (by omega) (fun h3 => ?_) (fun h3 => ?_)
  · refine x_aload_n 14 C dX9_owns_13 rfl rfl rfl ?_
    refine x_geti (j := 8) 17 C rfl (lt79 (by decide)) rfl rfl (by decide) inT9 tb_1_60 rfl dX9_owns_14 rfl (fun r14 => ?_)
    refine x_callSNe (host := "FirstSeen") 20 C dX9_owns_17 rfl (c_X11_isWithin (by omega) (by omega)) (by decide +kernel) tb_2_215 tb_1_1 tb_2_216 (na := 2) (by decide +kernel) rfl ⟨by decide, by decide⟩ rfl (Nat.le_of_ble_eq_true rfl) rfl (fun r17 => ?_)
    refine x_zret C T dX9_owns_20 (b2_01 _) ?_
    exact PE_i (by first | rw [if_pos (by omega)] | rw [if_neg (by omega)]) (b2_in _)
  refine x_aload_n 7 C dX9_owns_6 rfl rfl rfl ?_
  refine x_geti (j := 3) 10 C rfl (lt79 (by decide)) rfl rfl (by decide) inT9 tb_1_44 rfl dX9_owns_7 rfl (fun r7 => ?_)
  refine x_goto 17 C dX9_owns_10 rfl ?_
  refine x_callSNe (host := "FirstSeen") 20 C dX9_owns_17 rfl (c_X11_isWithin (by omega) (by omega)) (by decide +kernel) tb_2_215 tb_1_1 tb_2_216 (na := 2) (by decide +kernel) rfl ⟨by decide, by decide⟩ rfl (Nat.le_of_ble_eq_true rfl) rfl (fun r17 => ?_)
  refine x_zret C T dX9_owns_20 (b2_01 _) ?_
  exact PE_i (by first | rw [if_pos (by omega)] | rw [if_neg (by omega)]) (b2_in _)
