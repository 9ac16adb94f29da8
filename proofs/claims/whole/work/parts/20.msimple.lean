/-- the model's town in the class's words -/
def mT (σ : Sig) : Sig := fun a b => match a with
  | 1 => (match b with | 1 => σ 51 8 | 2 => σ 51 4 | 3 => σ 51 13 | 8 => σ 51 18 | _ => 0)
  | 2 => σ 55 b | 3 => σ 57 b | 4 => σ 58 b | 5 => σ 59 b | 6 => σ 56 b | 7 => σ 60 b | 8 => σ 61 b | 9 => σ 62 b | 10 => σ 63 b | _ => 0
def MI (σ : Sig) : Prop := (0 ≤ σ 51 8 ∧ σ 51 8 ≤ 9) ∧ (0 ≤ σ 51 4 ∧ σ 51 4 ≤ 5) ∧ (0 ≤ σ 51 13 ∧ σ 51 13 ≤ 6) ∧ (0 ≤ σ 51 18 ∧ σ 51 18 ≤ 5) ∧ ∀ i : Nat, (0 ≤ σ 55 i ∧ σ 55 i ≤ 9) ∧ (0 ≤ σ 57 i ∧ σ 57 i ≤ 35) ∧ (0 ≤ σ 58 i ∧ σ 58 i ≤ 99) ∧ (0 ≤ σ 59 i ∧ σ 59 i ≤ 9) ∧ (0 ≤ σ 56 i ∧ σ 56 i ≤ 5) ∧ (0 ≤ σ 60 i ∧ σ 60 i ≤ 35) ∧ (0 ≤ σ 61 i ∧ σ 61 i ≤ 3) ∧ (0 ≤ σ 62 i ∧ σ 62 i ≤ 23) ∧ (0 ≤ σ 63 i ∧ σ 63 i ≤ 99)
theorem MI_T {σ : Sig} (h : MI σ) : TI (mT σ) := h
set_option maxHeartbeats 4000000 in
set_option maxRecDepth 100000 in
theorem c_X12_in {l : Launch} {G : Gt} {ρ : Nat → Nat} {tc : Nat} {cl : Nat → Nat} {σ : Sig} {v a b : Int} (hv : -9223372036854775808 ≤ v ∧ v ≤ 9223372036854775807) (ha : -9223372036854775808 ≤ a ∧ a ≤ 9223372036854775807) (hb : -9223372036854775808 ≤ b ∧ b ≤ 9223372036854775807) : MX l yX12_in cX12_in 6 (some .boolean) 0 0 G (NN tc) ρ (shp tc cl) [.long (lZ v), .long (lZ a), .long (lZ b)] σ (PE σ (b2 (a ≤ v ∧ v ≤ b))) := by
  refine MX_of [some (.long (lZ v)), none, some (.long (lZ a)), none, some (.long (lZ b)), none] (by decide +kernel) rfl rfl (Nat.le_of_ble_eq_true rfl) ?_
  intro K hKl C T hRng
  subst hKl
  refine x_lload_n 1 C dX12_in_0 rfl rfl rfl ?_
  refine x_lload_n 2 C dX12_in_1 rfl rfl rfl ?_
  refine x_lcmp 3 C dX12_in_2 rfl (by omega) (by omega) ?_
  refine x_lif_lt 17 6 C dX12_in_3 rfl rfl (fun h3 => ?_) (fun h3 => ?_)
  · refine x_iconst 18 C dX12_in_17 rfl ?_
    refine x_zret C T dX12_in_18 (by omega) ?_
    exact PE_i (by unfold b2; split <;> omega) (by omega)
  refine x_lload_n 7 C dX12_in_6 rfl rfl rfl ?_
  refine x_lload 9 C dX12_in_7 rfl rfl ?_
  refine x_lcmp 10 C dX12_in_9 rfl (by omega) (by omega) ?_
  refine x_lif_gt 17 13 C dX12_in_10 rfl rfl (fun h10 => ?_) (fun h10 => ?_)
  · refine x_iconst 18 C dX12_in_17 rfl ?_
    refine x_zret C T dX12_in_18 (by omega) ?_
    exact PE_i (by unfold b2; split <;> omega) (by omega)
  refine x_iconst 14 C dX12_in_13 rfl ?_
  refine x_goto 18 C dX12_in_14 rfl ?_
  refine x_zret C T dX12_in_18 (by omega) ?_
  exact PE_i (by unfold b2; split <;> omega) (by omega)

set_option maxHeartbeats 4000000 in
set_option maxRecDepth 100000 in
theorem c_X12_within {l : Launch} {G : Gt} {ρ : Nat → Nat} {tc : Nat} {cl : Nat → Nat} {σ : Sig} {v a b : Int} (hv : -2147483648 ≤ v ∧ v ≤ 2147483647) (ha : -2147483648 ≤ a ∧ a ≤ 2147483647) (hb : -2147483648 ≤ b ∧ b ≤ 2147483647) : MX l yX12_within cX12_within 3 (some .int) 0 0 G (NN tc) ρ (shp tc cl) [.int (iZ v), .int (iZ a), .int (iZ b)] σ (PE σ (if v < a then a else if b < v then b else v)) := by
  refine MX_of [some (.int (iZ v)), some (.int (iZ a)), some (.int (iZ b))] (by decide +kernel) rfl rfl (Nat.le_of_ble_eq_true rfl) ?_
  intro K hKl C T hRng
  subst hKl
  refine x_iload_n 1 C dX12_within_0 rfl rfl rfl ?_
  refine x_iload_n 2 C dX12_within_1 rfl rfl rfl ?_
  refine x_icmp_ge 9 5 C dX12_within_2 rfl rfl (by omega) (by omega) (fun h2 => ?_) (fun h2 => ?_)
  rotate_left
  · refine x_iload_n 6 C dX12_within_5 rfl rfl rfl ?_
    refine x_goto 19 C dX12_within_6 rfl ?_
    refine x_iret C T dX12_within_19 ?_
    exact PE_i (by first | rw [if_pos (by omega)] | rw [if_neg (by omega), if_pos (by omega)] | rw [if_neg (by omega), if_neg (by omega)]) (by omega)
  refine x_iload_n 10 C dX12_within_9 rfl rfl rfl ?_
  refine x_iload_n 11 C dX12_within_10 rfl rfl rfl ?_
  refine x_icmp_le 18 14 C dX12_within_11 rfl rfl (by omega) (by omega) (fun h11 => ?_) (fun h11 => ?_)
  · refine x_iload_n 19 C dX12_within_18 rfl rfl rfl ?_
    refine x_iret C T dX12_within_19 ?_
    exact PE_i (by first | rw [if_pos (by omega)] | rw [if_neg (by omega), if_pos (by omega)] | rw [if_neg (by omega), if_neg (by omega)]) (by omega)
  refine x_iload_n 15 C dX12_within_14 rfl rfl rfl ?_
  refine x_goto 19 C dX12_within_15 rfl ?_
  refine x_iret C T dX12_within_19 ?_
  exact PE_i (by first | rw [if_pos (by omega)] | rw [if_neg (by omega), if_pos (by omega)] | rw [if_neg (by omega), if_neg (by omega)]) (by omega)

set_option maxHeartbeats 4000000 in
set_option maxRecDepth 100000 in
theorem c_X12_isCell {l : Launch} {G : Gt} {ρ : Nat → Nat} {tc : Nat} {cl : Nat → Nat} {σ : Sig} {v : Int} (hv : -2147483648 ≤ v ∧ v ≤ 2147483647) : MX l yX12_isCell cX12_isCell 1 (some .boolean) 1 25 G (NN tc) ρ (shp tc cl) [.int (iZ v)] σ (PE σ (b2 (0 ≤ v ∧ v ≤ 35))) := by
  refine MX_of [some (.int (iZ v))] (by decide +kernel) rfl rfl (Nat.le_of_ble_eq_true rfl) ?_
  intro K hKl C T hRng
  subst hKl
  refine x_iload_n 1 C dX12_isCell_0 rfl rfl rfl ?_
  refine x_i2l 2 C dX12_isCell_1 rfl (by omega) ?_
  refine x_lconst 3 C dX12_isCell_2 rfl 0 rfl ?_
  refine x_ldc2 (z := 35) 6 C tb_5_75 dX12_isCell_3 rfl ?_
  refine x_callSe 9 C dX12_isCell_6 rfl (c_X12_in (by omega) (by omega) (by omega)) tb_5_69 tb_5_70 tb_1_20 tb_5_71 (na := 3) (by decide +kernel) rfl ⟨by decide, by decide⟩ rfl (Nat.le_of_ble_eq_true rfl) rfl (fun r6 => ?_)
  refine x_zret C T dX12_isCell_9 (b2_01 _) ?_
  exact PE_i rfl (b2_in _)

set_option maxHeartbeats 4000000 in
set_option maxRecDepth 100000 in
theorem c_X12_isSheet {l : Launch} {G : Gt} {ρ : Nat → Nat} {tc : Nat} {cl : Nat → Nat} {σ : Sig} {v : Int} (hv : -2147483648 ≤ v ∧ v ≤ 2147483647) : MX l yX12_isSheet cX12_isSheet 1 (some .boolean) 1 25 G (NN tc) ρ (shp tc cl) [.int (iZ v)] σ (PE σ (b2 (0 ≤ v ∧ v ≤ 3))) := by
  refine MX_of [some (.int (iZ v))] (by decide +kernel) rfl rfl (Nat.le_of_ble_eq_true rfl) ?_
  intro K hKl C T hRng
  subst hKl
  refine x_iload_n 1 C dX12_isSheet_0 rfl rfl rfl ?_
  refine x_i2l 2 C dX12_isSheet_1 rfl (by omega) ?_
  refine x_lconst 3 C dX12_isSheet_2 rfl 0 rfl ?_
  refine x_ldc2 (z := 3) 6 C tb_5_105 dX12_isSheet_3 rfl ?_
  refine x_callSe 9 C dX12_isSheet_6 rfl (c_X12_in (by omega) (by omega) (by omega)) tb_5_69 tb_5_70 tb_1_20 tb_5_71 (na := 3) (by decide +kernel) rfl ⟨by decide, by decide⟩ rfl (Nat.le_of_ble_eq_true rfl) rfl (fun r6 => ?_)
  refine x_zret C T dX12_isSheet_9 (b2_01 _) ?_
  exact PE_i rfl (b2_in _)

set_option maxHeartbeats 4000000 in
set_option maxRecDepth 100000 in
theorem c_X12_isThing {l : Launch} {G : Gt} {ρ : Nat → Nat} {tc : Nat} {cl : Nat → Nat} {σ : Sig} {v : Int} (hv : -2147483648 ≤ v ∧ v ≤ 2147483647) (hT : MI σ) : MX l yX12_isThing cX12_isThing 2 (some .boolean) 1 25 G (NN tc) ρ (shp tc cl) [.ref (ρ 51), .int (iZ v)] σ (PE σ (b2 (0 ≤ v ∧ v ≤ σ 51 13 - 1))) := by
  refine MX_of [some (.ref (ρ 51)), some (.int (iZ v))] (by decide +kernel) rfl rfl (Nat.le_of_ble_eq_true rfl) ?_
  intro K hKl C T hRng
  subst hKl
  have h3 := hT.2.2.1
  have h8 := hT.2.2.2.1
  refine x_iload_n 1 C dX12_isThing_0 rfl rfl rfl ?_
  refine x_i2l 2 C dX12_isThing_1 rfl (by omega) ?_
  refine x_lconst 3 C dX12_isThing_2 rfl 0 rfl ?_
  refine x_aload_n 4 C dX12_isThing_3 rfl rfl rfl ?_
  refine x_geti (j := 13) 7 C rfl (lt79 (by decide)) rfl rfl (by decide) inT12 tb_4_147 rfl dX12_isThing_4 rfl (fun r4 => ?_)
  refine x_iconst 8 C dX12_isThing_7 rfl ?_
  refine x_isub 9 C dX12_isThing_8 rfl ?_
  refine x_i2l 10 C dX12_isThing_9 rfl (by omega) ?_
  refine x_callSe 13 C dX12_isThing_10 rfl (c_X12_in (by omega) (by omega) (by omega)) tb_5_69 tb_5_70 tb_1_20 tb_5_71 (na := 3) (by decide +kernel) rfl ⟨by decide, by decide⟩ rfl (Nat.le_of_ble_eq_true rfl) rfl (fun r10 => ?_)
  refine x_zret C T dX12_isThing_13 (b2_01 _) ?_
  exact PE_i rfl (b2_in _)

set_option maxHeartbeats 4000000 in
set_option maxRecDepth 100000 in
theorem c_X12_isOne {l : Launch} {G : Gt} {ρ : Nat → Nat} {tc : Nat} {cl : Nat → Nat} {σ : Sig} {v : Int} (hv : -2147483648 ≤ v ∧ v ≤ 2147483647) (hT : MI σ) : MX l yX12_isOne cX12_isOne 2 (some .boolean) 1 25 G (NN tc) ρ (shp tc cl) [.ref (ρ 51), .int (iZ v)] σ (PE σ (b2 (0 ≤ v ∧ v ≤ σ 51 18 - 1))) := by
  refine MX_of [some (.ref (ρ 51)), some (.int (iZ v))] (by decide +kernel) rfl rfl (Nat.le_of_ble_eq_true rfl) ?_
  intro K hKl C T hRng
  subst hKl
  have h3 := hT.2.2.1
  have h8 := hT.2.2.2.1
  refine x_iload_n 1 C dX12_isOne_0 rfl rfl rfl ?_
  refine x_i2l 2 C dX12_isOne_1 rfl (by omega) ?_
  refine x_lconst 3 C dX12_isOne_2 rfl 0 rfl ?_
  refine x_aload_n 4 C dX12_isOne_3 rfl rfl rfl ?_
  refine x_geti (j := 18) 7 C rfl (lt79 (by decide)) rfl rfl (by decide) inT12 tb_4_152 rfl dX12_isOne_4 rfl (fun r4 => ?_)
  refine x_iconst 8 C dX12_isOne_7 rfl ?_
  refine x_isub 9 C dX12_isOne_8 rfl ?_
  refine x_i2l 10 C dX12_isOne_9 rfl (by omega) ?_
  refine x_callSe 13 C dX12_isOne_10 rfl (c_X12_in (by omega) (by omega) (by omega)) tb_5_69 tb_5_70 tb_1_20 tb_5_71 (na := 3) (by decide +kernel) rfl ⟨by decide, by decide⟩ rfl (Nat.le_of_ble_eq_true rfl) rfl (fun r10 => ?_)
  refine x_zret C T dX12_isOne_13 (b2_01 _) ?_
  exact PE_i rfl (b2_in _)

set_option maxHeartbeats 4000000 in
set_option maxRecDepth 100000 in
theorem c_X12_high {l : Launch} {G : Gt} {ρ : Nat → Nat} {tc : Nat} {cl : Nat → Nat} {σ : Sig} {v : Int} (hv : -2147483648 ≤ v ∧ v ≤ 2147483647) : MX l yX12_high cX12_high 2 (some .int) 2 45 G (NN tc) ρ (shp tc cl) [.ref (ρ 51), .int (iZ v)] σ (PE σ (if 0 ≤ v ∧ v < 36 then σ 55 v.toNat else -2)) := by
  refine MX_of [some (.ref (ρ 51)), some (.int (iZ v))] (by decide +kernel) rfl rfl (Nat.le_of_ble_eq_true rfl) ?_
  intro K hKl C T hRng
  subst hKl
  refine x_iload_n 1 C dX12_high_0 rfl rfl rfl ?_
  refine x_callSe 4 C dX12_high_1 rfl (c_X12_isCell (by omega)) tb_5_72 tb_5_73 tb_1_20 tb_5_74 (na := 1) (by decide +kernel) rfl ⟨by decide, by decide⟩ rfl (Nat.le_of_ble_eq_true rfl) rfl (fun r1 => ?_)
  first
    | refine x_ifb_eq 16 7 C dX12_high_4 rfl rfl (fun h4 => ?_) (fun h4 => ?_)
    | refine x_if_eq 16 7 C dX12_high_4 rfl rfl (by omega) (fun h4 => ?_) (fun h4 => ?_)
  · refine x_bipush 18 C dX12_high_16 rfl rfl ?_
    refine x_iret C T dX12_high_18 ?_
    exact PE_i (by first | rw [if_pos (by omega)] | rw [if_neg (by omega)]) (by omega)
  refine x_aload_n 8 C dX12_high_7 rfl rfl rfl ?_
  refine x_getr (j := 7) 11 C rfl (lt79 (by decide)) rfl rfl (by decide) inT12 tb_4_141 rfl dX12_high_8 rfl ?_
  refine x_iload_n 12 C dX12_high_11 rfl rfl rfl ?_
  refine x_iald 13 C rfl (lt79 (by decide)) dX12_high_12 rfl (by omega) (by omega) (fun r12 => ?_)
  refine x_goto 18 C dX12_high_13 rfl ?_
  refine x_iret C T dX12_high_18 ?_
  exact PE_i (by first | rw [if_pos (by omega)] | rw [if_neg (by omega)]) (by omega)

def rM_town (σ : Sig) (a b c : Int) : Int := if a = 0 ∧ 0 ≤ b ∧ b < 36 ∧ 0 ≤ c ∧ c ≤ 9 then σ 55 b.toNat else if a = 1 ∧ 0 ≤ c ∧ c ≤ 9 then σ 51 8 else -2
def nM_town (σ : Sig) (a b c : Int) : Sig := if a = 0 ∧ 0 ≤ b ∧ b < 36 ∧ 0 ≤ c ∧ c ≤ 9 then up σ 55 b.toNat c else if a = 1 ∧ 0 ≤ c ∧ c ≤ 9 then up σ 51 8 c else σ
set_option maxHeartbeats 4000000 in
set_option maxRecDepth 100000 in
theorem c_X12_town {l : Launch} {G : Gt} {ρ : Nat → Nat} {tc : Nat} {cl : Nat → Nat} {σ : Sig} {a b c : Int} (ha : -2147483648 ≤ a ∧ a ≤ 2147483647) (hb : -2147483648 ≤ b ∧ b ≤ 2147483647) (hc : -2147483648 ≤ c ∧ c ≤ 2147483647) : MX l yX12_town cX12_town 5 (some .int) 2 45 G (NN tc) ρ (shp tc cl) [.ref (ρ 51), .int (iZ a), .int (iZ b), .int (iZ c)] σ (PI (fun z σ' => z = rM_town σ a b c ∧ σ' = nM_town σ a b c)) := by
  refine MX_of [some (.ref (ρ 51)), some (.int (iZ a)), some (.int (iZ b)), some (.int (iZ c)), none] (by decide +kernel) rfl rfl (Nat.le_of_ble_eq_true rfl) ?_
  intro K hKl C T hRng
  subst hKl
  refine x_iload_n 1 C dX12_town_0 rfl rfl rfl ?_
  refine x_i2l 2 C dX12_town_1 rfl (by omega) ?_
  refine x_lconst 3 C dX12_town_2 rfl 0 rfl ?_
  refine x_lconst 4 C dX12_town_3 rfl 1 rfl ?_
  refine x_callSe 7 C dX12_town_4 rfl (c_X12_in (by omega) (by omega) (by omega)) tb_5_69 tb_5_70 tb_1_20 tb_5_71 (na := 3) (by decide +kernel) rfl ⟨by decide, by decide⟩ rfl (Nat.le_of_ble_eq_true rfl) rfl (fun r4 => ?_)
  first
    | refine x_ifb_eq 33 10 C dX12_town_7 rfl rfl (fun h7 => ?_) (fun h7 => ?_)
    | refine x_if_eq 33 10 C dX12_town_7 rfl rfl (by omega) (fun h7 => ?_) (fun h7 => ?_)
  · refine x_bipush 35 C dX12_town_33 rfl rfl ?_
    refine x_iret C T dX12_town_35 ?_
    refine PI_i (by omega) ?_
    unfold rM_town nM_town
    refine ⟨?_, ?_⟩ <;> (first | (exfalso; omega) | rw [if_pos (by omega)] | rw [if_neg (by omega), if_pos (by omega)] | rw [if_neg (by omega), if_neg (by omega)])
  refine x_iload_n 11 C dX12_town_10 rfl rfl rfl ?_
  first
    | refine x_ifb_ne 21 14 C dX12_town_11 rfl rfl (fun h11 => ?_) (fun h11 => ?_)
    | refine x_if_ne 21 14 C dX12_town_11 rfl rfl (by omega) (fun h11 => ?_) (fun h11 => ?_)
  · refine x_iload_n 22 C dX12_town_21 rfl rfl rfl ?_
    refine x_i2l 23 C dX12_town_22 rfl (by omega) ?_
    refine x_lconst 24 C dX12_town_23 rfl 0 rfl ?_
    refine x_ldc2 (z := 9) 27 C tb_5_76 dX12_town_24 rfl ?_
    refine x_callSe 30 C dX12_town_27 rfl (c_X12_in (by omega) (by omega) (by omega)) tb_5_69 tb_5_70 tb_1_20 tb_5_71 (na := 3) (by decide +kernel) rfl ⟨by decide, by decide⟩ rfl (Nat.le_of_ble_eq_true rfl) rfl (fun r27 => ?_)
    first
      | refine x_ifb_ne 36 33 C dX12_town_30 rfl rfl (fun h30 => ?_) (fun h30 => ?_)
      | refine x_if_ne 36 33 C dX12_town_30 rfl rfl (by omega) (fun h30 => ?_) (fun h30 => ?_)
    rotate_left
    · refine x_bipush 35 C dX12_town_33 rfl rfl ?_
      refine x_iret C T dX12_town_35 ?_
      refine PI_i (by omega) ?_
      unfold rM_town nM_town
      refine ⟨?_, ?_⟩ <;> (first | (exfalso; omega) | rw [if_pos (by omega)] | rw [if_neg (by omega), if_pos (by omega)] | rw [if_neg (by omega), if_neg (by omega)])
    refine x_iload_n 37 C dX12_town_36 rfl rfl rfl ?_
    first
      | refine x_ifb_ne 49 40 C dX12_town_37 rfl rfl (fun h37 => ?_) (fun h37 => ?_)
      | refine x_if_ne 49 40 C dX12_town_37 rfl rfl (by omega) (fun h37 => ?_) (fun h37 => ?_)
    · refine x_aload_n 50 C dX12_town_49 rfl rfl rfl ?_
      refine x_geti (j := 8) 53 C rfl (lt79 (by decide)) rfl rfl (by decide) inT12 tb_4_142 rfl dX12_town_50 rfl (fun r50 => ?_)
      refine x_istore_4 55 C dX12_town_53 rfl rfl ?_
      refine x_iload_n 56 C dX12_town_55 rfl rfl rfl ?_
      first
        | refine x_ifb_ne 69 59 C dX12_town_56 rfl rfl (fun h56 => ?_) (fun h56 => ?_)
        | refine x_if_ne 69 59 C dX12_town_56 rfl rfl (by omega) (fun h56 => ?_) (fun h56 => ?_)
      · refine x_aload_n 70 C dX12_town_69 rfl rfl rfl ?_
        refine x_iload_n 71 C dX12_town_70 rfl rfl rfl ?_
        refine x_puti (j := 8) tyX12 74 C rfl (lt79 (by decide)) rfl rfl (by decide) inT12 tyX12_ok nmX12 tb_4_142 rfl rfl rfl dX12_town_71 rfl (by omega) ?_
        refine x_iload 76 C dX12_town_74 rfl rfl ?_
        refine x_iret C T dX12_town_76 ?_
        refine PI_i (by omega) ?_
        unfold rM_town nM_town
        refine ⟨?_, ?_⟩ <;> (first | (exfalso; omega) | rw [if_pos (by omega)] | rw [if_neg (by omega), if_pos (by omega)] | rw [if_neg (by omega), if_neg (by omega)])
      refine x_aload_n 60 C dX12_town_59 rfl rfl rfl ?_
      refine x_getr (j := 7) 63 C rfl (lt79 (by decide)) rfl rfl (by decide) inT12 tb_4_141 rfl dX12_town_60 rfl ?_
      refine x_iload_n 64 C dX12_town_63 rfl rfl rfl ?_
      refine x_iload_n 65 C dX12_town_64 rfl rfl rfl ?_
      refine x_iast 66 C rfl (lt79 (by decide)) dX12_town_65 rfl (by omega) (by omega) (by omega) ?_
      refine x_goto 74 C dX12_town_66 rfl ?_
      refine x_iload 76 C dX12_town_74 rfl rfl ?_
      refine x_iret C T dX12_town_76 ?_
      refine PI_i (by omega) ?_
      unfold rM_town nM_town
      refine ⟨?_, ?_⟩ <;> (first | (exfalso; omega) | rw [if_pos (by omega)] | rw [if_neg (by omega), if_pos (by omega)] | rw [if_neg (by omega), if_neg (by omega)])
    refine x_aload_n 41 C dX12_town_40 rfl rfl rfl ?_
    refine x_getr (j := 7) 44 C rfl (lt79 (by decide)) rfl rfl (by decide) inT12 tb_4_141 rfl dX12_town_41 rfl ?_
    refine x_iload_n 45 C dX12_town_44 rfl rfl rfl ?_
    refine x_iald 46 C rfl (lt79 (by decide)) dX12_town_45 rfl (by omega) (by omega) (fun r45 => ?_)
    refine x_goto 53 C dX12_town_46 rfl ?_
    refine x_istore_4 55 C dX12_town_53 rfl rfl ?_
    refine x_iload_n 56 C dX12_town_55 rfl rfl rfl ?_
    first
      | refine x_ifb_ne 69 59 C dX12_town_56 rfl rfl (fun h56 => ?_) (fun h56 => ?_)
      | refine x_if_ne 69 59 C dX12_town_56 rfl rfl (by omega) (fun h56 => ?_) (fun h56 => ?_)
    · refine x_aload_n 70 C dX12_town_69 rfl rfl rfl ?_
      refine x_iload_n 71 C dX12_town_70 rfl rfl rfl ?_
      refine x_puti (j := 8) tyX12 74 C rfl (lt79 (by decide)) rfl rfl (by decide) inT12 tyX12_ok nmX12 tb_4_142 rfl rfl rfl dX12_town_71 rfl (by omega) ?_
      refine x_iload 76 C dX12_town_74 rfl rfl ?_
      refine x_iret C T dX12_town_76 ?_
      refine PI_i (by omega) ?_
      unfold rM_town nM_town
      refine ⟨?_, ?_⟩ <;> (first | (exfalso; omega) | rw [if_pos (by omega)] | rw [if_neg (by omega), if_pos (by omega)] | rw [if_neg (by omega), if_neg (by omega)])
    refine x_aload_n 60 C dX12_town_59 rfl rfl rfl ?_
    refine x_getr (j := 7) 63 C rfl (lt79 (by decide)) rfl rfl (by decide) inT12 tb_4_141 rfl dX12_town_60 rfl ?_
    refine x_iload_n 64 C dX12_town_63 rfl rfl rfl ?_
    refine x_iload_n 65 C dX12_town_64 rfl rfl rfl ?_
    refine x_iast 66 C rfl (lt79 (by decide)) dX12_town_65 rfl (by omega) (by omega) (by omega) ?_
    refine x_goto 74 C dX12_town_66 rfl ?_
    refine x_iload 76 C dX12_town_74 rfl rfl ?_
    refine x_iret C T dX12_town_76 ?_
    refine PI_i (by omega) ?_
    unfold rM_town nM_town
    refine ⟨?_, ?_⟩ <;> (first | (exfalso; omega) | rw [if_pos (by omega)] | rw [if_neg (by omega), if_pos (by omega)] | rw [if_neg (by omega), if_neg (by omega)])
  refine x_iload_n 15 C dX12_town_14 rfl rfl rfl ?_
  refine x_callSe 18 C dX12_town_15 rfl (c_X12_isCell (by omega)) tb_5_72 tb_5_73 tb_1_20 tb_5_74 (na := 1) (by decide +kernel) rfl ⟨by decide, by decide⟩ rfl (Nat.le_of_ble_eq_true rfl) rfl (fun r15 => ?_)
  first
    | refine x_ifb_eq 33 21 C dX12_town_18 rfl rfl (fun h18 => ?_) (fun h18 => ?_)
    | refine x_if_eq 33 21 C dX12_town_18 rfl rfl (by omega) (fun h18 => ?_) (fun h18 => ?_)
  · refine x_bipush 35 C dX12_town_33 rfl rfl ?_
    refine x_iret C T dX12_town_35 ?_
    refine PI_i (by omega) ?_
    unfold rM_town nM_town
    refine ⟨?_, ?_⟩ <;> (first | (exfalso; omega) | rw [if_pos (by omega)] | rw [if_neg (by omega), if_pos (by omega)] | rw [if_neg (by omega), if_neg (by omega)])
  refine x_iload_n 22 C dX12_town_21 rfl rfl rfl ?_
  refine x_i2l 23 C dX12_town_22 rfl (by omega) ?_
  refine x_lconst 24 C dX12_town_23 rfl 0 rfl ?_
  refine x_ldc2 (z := 9) 27 C tb_5_76 dX12_town_24 rfl ?_
  refine x_callSe 30 C dX12_town_27 rfl (c_X12_in (by omega) (by omega) (by omega)) tb_5_69 tb_5_70 tb_1_20 tb_5_71 (na := 3) (by decide +kernel) rfl ⟨by decide, by decide⟩ rfl (Nat.le_of_ble_eq_true rfl) rfl (fun r27 => ?_)
  first
    | refine x_ifb_ne 36 33 C dX12_town_30 rfl rfl (fun h30 => ?_) (fun h30 => ?_)
    | refine x_if_ne 36 33 C dX12_town_30 rfl rfl (by omega) (fun h30 => ?_) (fun h30 => ?_)
  rotate_left
  · refine x_bipush 35 C dX12_town_33 rfl rfl ?_
    refine x_iret C T dX12_town_35 ?_
    refine PI_i (by omega) ?_
    unfold rM_town nM_town
    refine ⟨?_, ?_⟩ <;> (first | (exfalso; omega) | rw [if_pos (by omega)] | rw [if_neg (by omega), if_pos (by omega)] | rw [if_neg (by omega), if_neg (by omega)])
  refine x_iload_n 37 C dX12_town_36 rfl rfl rfl ?_
  first
    | refine x_ifb_ne 49 40 C dX12_town_37 rfl rfl (fun h37 => ?_) (fun h37 => ?_)
    | refine x_if_ne 49 40 C dX12_town_37 rfl rfl (by omega) (fun h37 => ?_) (fun h37 => ?_)
  · refine x_aload_n 50 C dX12_town_49 rfl rfl rfl ?_
    refine x_geti (j := 8) 53 C rfl (lt79 (by decide)) rfl rfl (by decide) inT12 tb_4_142 rfl dX12_town_50 rfl (fun r50 => ?_)
    refine x_istore_4 55 C dX12_town_53 rfl rfl ?_
    refine x_iload_n 56 C dX12_town_55 rfl rfl rfl ?_
    first
      | refine x_ifb_ne 69 59 C dX12_town_56 rfl rfl (fun h56 => ?_) (fun h56 => ?_)
      | refine x_if_ne 69 59 C dX12_town_56 rfl rfl (by omega) (fun h56 => ?_) (fun h56 => ?_)
    · refine x_aload_n 70 C dX12_town_69 rfl rfl rfl ?_
      refine x_iload_n 71 C dX12_town_70 rfl rfl rfl ?_
      refine x_puti (j := 8) tyX12 74 C rfl (lt79 (by decide)) rfl rfl (by decide) inT12 tyX12_ok nmX12 tb_4_142 rfl rfl rfl dX12_town_71 rfl (by omega) ?_
      refine x_iload 76 C dX12_town_74 rfl rfl ?_
      refine x_iret C T dX12_town_76 ?_
      refine PI_i (by omega) ?_
      unfold rM_town nM_town
      refine ⟨?_, ?_⟩ <;> (first | (exfalso; omega) | rw [if_pos (by omega)] | rw [if_neg (by omega), if_pos (by omega)] | rw [if_neg (by omega), if_neg (by omega)])
    refine x_aload_n 60 C dX12_town_59 rfl rfl rfl ?_
    refine x_getr (j := 7) 63 C rfl (lt79 (by decide)) rfl rfl (by decide) inT12 tb_4_141 rfl dX12_town_60 rfl ?_
    refine x_iload_n 64 C dX12_town_63 rfl rfl rfl ?_
    refine x_iload_n 65 C dX12_town_64 rfl rfl rfl ?_
    refine x_iast 66 C rfl (lt79 (by decide)) dX12_town_65 rfl (by omega) (by omega) (by omega) ?_
    refine x_goto 74 C dX12_town_66 rfl ?_
    refine x_iload 76 C dX12_town_74 rfl rfl ?_
    refine x_iret C T dX12_town_76 ?_
    refine PI_i (by omega) ?_
    unfold rM_town nM_town
    refine ⟨?_, ?_⟩ <;> (first | (exfalso; omega) | rw [if_pos (by omega)] | rw [if_neg (by omega), if_pos (by omega)] | rw [if_neg (by omega), if_neg (by omega)])
  refine x_aload_n 41 C dX12_town_40 rfl rfl rfl ?_
  refine x_getr (j := 7) 44 C rfl (lt79 (by decide)) rfl rfl (by decide) inT12 tb_4_141 rfl dX12_town_41 rfl ?_
  refine x_iload_n 45 C dX12_town_44 rfl rfl rfl ?_
  refine x_iald 46 C rfl (lt79 (by decide)) dX12_town_45 rfl (by omega) (by omega) (fun r45 => ?_)
  refine x_goto 53 C dX12_town_46 rfl ?_
  refine x_istore_4 55 C dX12_town_53 rfl rfl ?_
  refine x_iload_n 56 C dX12_town_55 rfl rfl rfl ?_
  first
    | refine x_ifb_ne 69 59 C dX12_town_56 rfl rfl (fun h56 => ?_) (fun h56 => ?_)
    | refine x_if_ne 69 59 C dX12_town_56 rfl rfl (by omega) (fun h56 => ?_) (fun h56 => ?_)
  · refine x_aload_n 70 C dX12_town_69 rfl rfl rfl ?_
    refine x_iload_n 71 C dX12_town_70 rfl rfl rfl ?_
    refine x_puti (j := 8) tyX12 74 C rfl (lt79 (by decide)) rfl rfl (by decide) inT12 tyX12_ok nmX12 tb_4_142 rfl rfl rfl dX12_town_71 rfl (by omega) ?_
    refine x_iload 76 C dX12_town_74 rfl rfl ?_
    refine x_iret C T dX12_town_76 ?_
    refine PI_i (by omega) ?_
    unfold rM_town nM_town
    refine ⟨?_, ?_⟩ <;> (first | (exfalso; omega) | rw [if_pos (by omega)] | rw [if_neg (by omega), if_pos (by omega)] | rw [if_neg (by omega), if_neg (by omega)])
  refine x_aload_n 60 C dX12_town_59 rfl rfl rfl ?_
  refine x_getr (j := 7) 63 C rfl (lt79 (by decide)) rfl rfl (by decide) inT12 tb_4_141 rfl dX12_town_60 rfl ?_
  refine x_iload_n 64 C dX12_town_63 rfl rfl rfl ?_
  refine x_iload_n 65 C dX12_town_64 rfl rfl rfl ?_
  refine x_iast 66 C rfl (lt79 (by decide)) dX12_town_65 rfl (by omega) (by omega) (by omega) ?_
  refine x_goto 74 C dX12_town_66 rfl ?_
  refine x_iload 76 C dX12_town_74 rfl rfl ?_
  refine x_iret C T dX12_town_76 ?_
  refine PI_i (by omega) ?_
  unfold rM_town nM_town
  refine ⟨?_, ?_⟩ <;> (first | (exfalso; omega) | rw [if_pos (by omega)] | rw [if_neg (by omega), if_pos (by omega)] | rw [if_neg (by omega), if_neg (by omega)])

def rM_thing (σ : Sig) (k h w : Int) : Int := if 0 ≤ k ∧ k ≤ 5 ∧ 0 ≤ h ∧ h ≤ 35 ∧ 0 ≤ w ∧ w ≤ 999 then (if σ 51 13 < 6 then σ 51 13 else -4) else -2
def nM_thing (σ : Sig) (k h w : Int) : Sig := if 0 ≤ k ∧ k ≤ 5 ∧ 0 ≤ h ∧ h ≤ 35 ∧ 0 ≤ w ∧ w ≤ 999 then (if σ 51 13 < 6 then up (up (up (up (up σ 56 (σ 51 13).toNat k) 57 (σ 51 13).toNat h) 58 (σ 51 13).toNat (w / 10)) 59 (σ 51 13).toNat (w % 10)) 51 13 (σ 51 13 + 1) else σ) else σ
def rM_sleeper (σ : Sig) (c w g : Int) : Int := if 0 ≤ c ∧ c ≤ 35 ∧ 0 ≤ w ∧ w / 10 ≤ 23 ∧ w % 10 ≤ 3 ∧ 0 ≤ g ∧ g ≤ 99 then (if σ 51 18 < 5 then σ 51 18 else -4) else -2
def nM_sleeper (σ : Sig) (c w g : Int) : Sig := if 0 ≤ c ∧ c ≤ 35 ∧ 0 ≤ w ∧ w / 10 ≤ 23 ∧ w % 10 ≤ 3 ∧ 0 ≤ g ∧ g ≤ 99 then (if σ 51 18 < 5 then up (up (up (up (up σ 60 (σ 51 18).toNat c) 61 (σ 51 18).toNat (w % 10)) 62 (σ 51 18).toNat (w / 10)) 63 (σ 51 18).toNat g) 51 18 (σ 51 18 + 1) else σ) else σ
set_option maxHeartbeats 4000000 in
set_option maxRecDepth 100000 in
theorem c_X12_thing {l : Launch} {G : Gt} {ρ : Nat → Nat} {tc : Nat} {cl : Nat → Nat} {σ : Sig} {k h w : Int} (hk : -2147483648 ≤ k ∧ k ≤ 2147483647) (hh : -2147483648 ≤ h ∧ h ≤ 2147483647) (hw : -2147483648 ≤ w ∧ w ≤ 2147483647) (hT : MI σ) : MX l yX12_thing cX12_thing 4 (some .int) 2 45 G (NN tc) ρ (shp tc cl) [.ref (ρ 51), .int (iZ k), .int (iZ h), .int (iZ w)] σ (PI (fun z σ' => z = rM_thing σ k h w ∧ σ' = nM_thing σ k h w)) := by
  refine MX_of [some (.ref (ρ 51)), some (.int (iZ k)), some (.int (iZ h)), some (.int (iZ w))] (by decide +kernel) rfl rfl (Nat.le_of_ble_eq_true rfl) ?_
  intro K hKl C T hRng
  subst hKl
  have hq := hT.2.2.1
  refine x_iload_n 1 C dX12_thing_0 rfl rfl rfl ?_
  refine x_i2l 2 C dX12_thing_1 rfl (by omega) ?_
  refine x_lconst 3 C dX12_thing_2 rfl 0 rfl ?_
  refine x_ldc2 (z := 5) 6 C tb_5_85 dX12_thing_3 rfl ?_
  refine x_callSe 9 C dX12_thing_6 rfl (c_X12_in (by omega) (by omega) (by omega)) tb_5_69 tb_5_70 tb_1_20 tb_5_71 (na := 3) (by decide +kernel) rfl ⟨by decide, by decide⟩ rfl (Nat.le_of_ble_eq_true rfl) rfl (fun r6 => ?_)
  first
    | refine x_ifb_eq 31 12 C dX12_thing_9 rfl rfl (fun h9 => ?_) (fun h9 => ?_)
    | refine x_if_eq 31 12 C dX12_thing_9 rfl rfl (by omega) (fun h9 => ?_) (fun h9 => ?_)
  · refine x_bipush 33 C dX12_thing_31 rfl rfl ?_
    refine x_iret C T dX12_thing_33 ?_
    refine PI_i (by omega) ?_
    unfold rM_thing nM_thing
    refine ⟨?_, ?_⟩ <;> (first | rw [if_neg (by omega)] | (rw [if_pos (by omega), if_pos (by omega)]; done) | (rw [if_pos (by omega), if_pos (by omega)]; omega) | rw [if_pos (by omega), if_neg (by omega)])
  refine x_iload_n 13 C dX12_thing_12 rfl rfl rfl ?_
  refine x_callSe 16 C dX12_thing_13 rfl (c_X12_isCell (by omega)) tb_5_72 tb_5_73 tb_1_20 tb_5_74 (na := 1) (by decide +kernel) rfl ⟨by decide, by decide⟩ rfl (Nat.le_of_ble_eq_true rfl) rfl (fun r13 => ?_)
  first
    | refine x_ifb_eq 31 19 C dX12_thing_16 rfl rfl (fun h16 => ?_) (fun h16 => ?_)
    | refine x_if_eq 31 19 C dX12_thing_16 rfl rfl (by omega) (fun h16 => ?_) (fun h16 => ?_)
  · refine x_bipush 33 C dX12_thing_31 rfl rfl ?_
    refine x_iret C T dX12_thing_33 ?_
    refine PI_i (by omega) ?_
    unfold rM_thing nM_thing
    refine ⟨?_, ?_⟩ <;> (first | rw [if_neg (by omega)] | (rw [if_pos (by omega), if_pos (by omega)]; done) | (rw [if_pos (by omega), if_pos (by omega)]; omega) | rw [if_pos (by omega), if_neg (by omega)])
  refine x_iload_n 20 C dX12_thing_19 rfl rfl rfl ?_
  refine x_i2l 21 C dX12_thing_20 rfl (by omega) ?_
  refine x_lconst 22 C dX12_thing_21 rfl 0 rfl ?_
  refine x_ldc2 (z := 999) 25 C tb_5_86 dX12_thing_22 rfl ?_
  refine x_callSe 28 C dX12_thing_25 rfl (c_X12_in (by omega) (by omega) (by omega)) tb_5_69 tb_5_70 tb_1_20 tb_5_71 (na := 3) (by decide +kernel) rfl ⟨by decide, by decide⟩ rfl (Nat.le_of_ble_eq_true rfl) rfl (fun r25 => ?_)
  first
    | refine x_ifb_ne 34 31 C dX12_thing_28 rfl rfl (fun h28 => ?_) (fun h28 => ?_)
    | refine x_if_ne 34 31 C dX12_thing_28 rfl rfl (by omega) (fun h28 => ?_) (fun h28 => ?_)
  rotate_left
  · refine x_bipush 33 C dX12_thing_31 rfl rfl ?_
    refine x_iret C T dX12_thing_33 ?_
    refine PI_i (by omega) ?_
    unfold rM_thing nM_thing
    refine ⟨?_, ?_⟩ <;> (first | rw [if_neg (by omega)] | (rw [if_pos (by omega), if_pos (by omega)]; done) | (rw [if_pos (by omega), if_pos (by omega)]; omega) | rw [if_pos (by omega), if_neg (by omega)])
  refine x_aload_n 35 C dX12_thing_34 rfl rfl rfl ?_
  refine x_geti (j := 13) 38 C rfl (lt79 (by decide)) rfl rfl (by decide) inT12 tb_4_147 rfl dX12_thing_35 rfl (fun r35 => ?_)
  refine x_bipush 40 C dX12_thing_38 rfl rfl ?_
  refine x_icmp_ne 46 43 C dX12_thing_40 rfl rfl (by omega) (by omega) (fun h40 => ?_) (fun h40 => ?_)
  rotate_left
  · refine x_bipush 45 C dX12_thing_43 rfl rfl ?_
    refine x_iret C T dX12_thing_45 ?_
    refine PI_i (by omega) ?_
    unfold rM_thing nM_thing
    refine ⟨?_, ?_⟩ <;> (first | rw [if_neg (by omega)] | (rw [if_pos (by omega), if_pos (by omega)]; done) | (rw [if_pos (by omega), if_pos (by omega)]; omega) | rw [if_pos (by omega), if_neg (by omega)])
  refine x_aload_n 47 C dX12_thing_46 rfl rfl rfl ?_
  refine x_getr (j := 9) 50 C rfl (lt79 (by decide)) rfl rfl (by decide) inT12 tb_4_143 rfl dX12_thing_47 rfl ?_
  refine x_aload_n 51 C dX12_thing_50 rfl rfl rfl ?_
  refine x_geti (j := 13) 54 C rfl (lt79 (by decide)) rfl rfl (by decide) inT12 tb_4_147 rfl dX12_thing_51 rfl (fun r51 => ?_)
  refine x_iload_n 55 C dX12_thing_54 rfl rfl rfl ?_
  refine x_iast 56 C rfl (lt79 (by decide)) dX12_thing_55 rfl (by omega) (by omega) (by omega) ?_
  refine x_aload_n 57 C dX12_thing_56 rfl rfl rfl ?_
  refine x_getr (j := 10) 60 C rfl (lt79 (by decide)) rfl rfl (by decide) inT12 tb_4_144 rfl dX12_thing_57 rfl ?_
  refine x_aload_n 61 C dX12_thing_60 rfl rfl rfl ?_
  refine x_geti (j := 13) 64 C rfl (lt79 (by decide)) rfl rfl (by decide) inT12 tb_4_147 rfl dX12_thing_61 rfl (fun r61 => ?_)
  simp only [up_r (show (51 : Nat) ≠ 56 by decide)] at *
  refine x_iload_n 65 C dX12_thing_64 rfl rfl rfl ?_
  refine x_iast 66 C rfl (lt79 (by decide)) dX12_thing_65 rfl (by omega) (by omega) (by omega) ?_
  refine x_aload_n 67 C dX12_thing_66 rfl rfl rfl ?_
  refine x_getr (j := 11) 70 C rfl (lt79 (by decide)) rfl rfl (by decide) inT12 tb_4_145 rfl dX12_thing_67 rfl ?_
  refine x_aload_n 71 C dX12_thing_70 rfl rfl rfl ?_
  refine x_geti (j := 13) 74 C rfl (lt79 (by decide)) rfl rfl (by decide) inT12 tb_4_147 rfl dX12_thing_71 rfl (fun r71 => ?_)
  simp only [up_r (show (51 : Nat) ≠ 57 by decide), up_r (show (51 : Nat) ≠ 56 by decide)] at *
  refine x_iload_n 75 C dX12_thing_74 rfl rfl rfl ?_
  refine x_bipush 77 C dX12_thing_75 rfl rfl ?_
  refine x_idiv 78 C dX12_thing_77 rfl (by omega) (by omega) ?_
  refine x_iast 79 C rfl (lt79 (by decide)) dX12_thing_78 rfl (by omega) (by omega) (by omega) ?_
  refine x_aload_n 80 C dX12_thing_79 rfl rfl rfl ?_
  refine x_getr (j := 12) 83 C rfl (lt79 (by decide)) rfl rfl (by decide) inT12 tb_4_146 rfl dX12_thing_80 rfl ?_
  refine x_aload_n 84 C dX12_thing_83 rfl rfl rfl ?_
  refine x_geti (j := 13) 87 C rfl (lt79 (by decide)) rfl rfl (by decide) inT12 tb_4_147 rfl dX12_thing_84 rfl (fun r84 => ?_)
  simp only [up_r (show (51 : Nat) ≠ 58 by decide), up_r (show (51 : Nat) ≠ 57 by decide), up_r (show (51 : Nat) ≠ 56 by decide)] at *
  refine x_iload_n 88 C dX12_thing_87 rfl rfl rfl ?_
  refine x_bipush 90 C dX12_thing_88 rfl rfl ?_
  refine x_irem 91 C dX12_thing_90 rfl (by omega) (by omega) ?_
  refine x_iast 92 C rfl (lt79 (by decide)) dX12_thing_91 rfl (by omega) (by omega) (by omega) ?_
  refine x_aload_n 93 C dX12_thing_92 rfl rfl rfl ?_
  refine x_dup 94 C dX12_thing_93 rfl rfl ?_
  refine x_geti (j := 13) 97 C rfl (lt79 (by decide)) rfl rfl (by decide) inT12 tb_4_147 rfl dX12_thing_94 rfl (fun r94 => ?_)
  simp only [up_r (show (51 : Nat) ≠ 59 by decide), up_r (show (51 : Nat) ≠ 58 by decide), up_r (show (51 : Nat) ≠ 57 by decide), up_r (show (51 : Nat) ≠ 56 by decide)] at *
  refine x_iconst 98 C dX12_thing_97 rfl ?_
  refine x_iadd 99 C dX12_thing_98 rfl ?_
  refine x_puti (j := 13) tyX12 102 C rfl (lt79 (by decide)) rfl rfl (by decide) inT12 tyX12_ok nmX12 tb_4_147 rfl rfl rfl dX12_thing_99 rfl (by omega) ?_
  refine x_aload_n 103 C dX12_thing_102 rfl rfl rfl ?_
  refine x_geti (j := 13) 106 C rfl (lt79 (by decide)) rfl rfl (by decide) inT12 tb_4_147 rfl dX12_thing_103 rfl (fun r103 => ?_)
  rw [up_s] at *
  refine x_iconst 107 C dX12_thing_106 rfl ?_
  refine x_isub 108 C dX12_thing_107 rfl ?_
  refine x_iret C T dX12_thing_108 ?_
  refine PI_i (by omega) ?_
  unfold rM_thing nM_thing
  refine ⟨?_, ?_⟩ <;> (first | rw [if_neg (by omega)] | (rw [if_pos (by omega), if_pos (by omega)]; done) | (rw [if_pos (by omega), if_pos (by omega)]; omega) | rw [if_pos (by omega), if_neg (by omega)])

set_option maxHeartbeats 4000000 in
set_option maxRecDepth 100000 in
theorem c_X12_sleeper {l : Launch} {G : Gt} {ρ : Nat → Nat} {tc : Nat} {cl : Nat → Nat} {σ : Sig} {c w g : Int} (hk : -2147483648 ≤ c ∧ c ≤ 2147483647) (hh : -2147483648 ≤ w ∧ w ≤ 2147483647) (hw : -2147483648 ≤ g ∧ g ≤ 2147483647) (hT : MI σ) : MX l yX12_sleeper cX12_sleeper 4 (some .int) 2 45 G (NN tc) ρ (shp tc cl) [.ref (ρ 51), .int (iZ c), .int (iZ w), .int (iZ g)] σ (PI (fun z σ' => z = rM_sleeper σ c w g ∧ σ' = nM_sleeper σ c w g)) := by
  refine MX_of [some (.ref (ρ 51)), some (.int (iZ c)), some (.int (iZ w)), some (.int (iZ g))] (by decide +kernel) rfl rfl (Nat.le_of_ble_eq_true rfl) ?_
  intro K hKl C T hRng
  subst hKl
  have hq := hT.2.2.2.1
  refine x_iload_n 1 C dX12_sleeper_0 rfl rfl rfl ?_
  refine x_callSe 4 C dX12_sleeper_1 rfl (c_X12_isCell (by omega)) tb_5_72 tb_5_73 tb_1_20 tb_5_74 (na := 1) (by decide +kernel) rfl ⟨by decide, by decide⟩ rfl (Nat.le_of_ble_eq_true rfl) rfl (fun r1 => ?_)
  first
    | refine x_ifb_eq 39 7 C dX12_sleeper_4 rfl rfl (fun h4 => ?_) (fun h4 => ?_)
    | refine x_if_eq 39 7 C dX12_sleeper_4 rfl rfl (by omega) (fun h4 => ?_) (fun h4 => ?_)
  · refine x_bipush 41 C dX12_sleeper_39 rfl rfl ?_
    refine x_iret C T dX12_sleeper_41 ?_
    refine PI_i (by omega) ?_
    unfold rM_sleeper nM_sleeper
    refine ⟨?_, ?_⟩ <;> (first | rw [if_neg (by omega)] | (rw [if_pos (by omega), if_pos (by omega)]; done) | (rw [if_pos (by omega), if_pos (by omega)]; omega) | rw [if_pos (by omega), if_neg (by omega)])
  refine x_iload_n 8 C dX12_sleeper_7 rfl rfl rfl ?_
  refine x_i2l 9 C dX12_sleeper_8 rfl (by omega) ?_
  refine x_lconst 10 C dX12_sleeper_9 rfl 0 rfl ?_
  refine x_ldc2 (z := 233) 13 C tb_5_91 dX12_sleeper_10 rfl ?_
  refine x_callSe 16 C dX12_sleeper_13 rfl (c_X12_in (by omega) (by omega) (by omega)) tb_5_69 tb_5_70 tb_1_20 tb_5_71 (na := 3) (by decide +kernel) rfl ⟨by decide, by decide⟩ rfl (Nat.le_of_ble_eq_true rfl) rfl (fun r13 => ?_)
  first
    | refine x_ifb_eq 39 19 C dX12_sleeper_16 rfl rfl (fun h16 => ?_) (fun h16 => ?_)
    | refine x_if_eq 39 19 C dX12_sleeper_16 rfl rfl (by omega) (fun h16 => ?_) (fun h16 => ?_)
  · refine x_bipush 41 C dX12_sleeper_39 rfl rfl ?_
    refine x_iret C T dX12_sleeper_41 ?_
    refine PI_i (by omega) ?_
    unfold rM_sleeper nM_sleeper
    refine ⟨?_, ?_⟩ <;> (first | rw [if_neg (by omega)] | (rw [if_pos (by omega), if_pos (by omega)]; done) | (rw [if_pos (by omega), if_pos (by omega)]; omega) | rw [if_pos (by omega), if_neg (by omega)])
  refine x_iload_n 20 C dX12_sleeper_19 rfl rfl rfl ?_
  refine x_bipush 22 C dX12_sleeper_20 rfl rfl ?_
  refine x_irem 23 C dX12_sleeper_22 rfl (by omega) (by omega) ?_
  refine x_iconst 24 C dX12_sleeper_23 rfl ?_
  refine x_icmp_ge 39 27 C dX12_sleeper_24 rfl rfl (by omega) (by omega) (fun h24 => ?_) (fun h24 => ?_)
  · refine x_bipush 41 C dX12_sleeper_39 rfl rfl ?_
    refine x_iret C T dX12_sleeper_41 ?_
    refine PI_i (by omega) ?_
    unfold rM_sleeper nM_sleeper
    refine ⟨?_, ?_⟩ <;> (first | rw [if_neg (by omega)] | (rw [if_pos (by omega), if_pos (by omega)]; done) | (rw [if_pos (by omega), if_pos (by omega)]; omega) | rw [if_pos (by omega), if_neg (by omega)])
  refine x_iload_n 28 C dX12_sleeper_27 rfl rfl rfl ?_
  refine x_i2l 29 C dX12_sleeper_28 rfl (by omega) ?_
  refine x_lconst 30 C dX12_sleeper_29 rfl 0 rfl ?_
  refine x_ldc2 (z := 99) 33 C tb_5_92 dX12_sleeper_30 rfl ?_
  refine x_callSe 36 C dX12_sleeper_33 rfl (c_X12_in (by omega) (by omega) (by omega)) tb_5_69 tb_5_70 tb_1_20 tb_5_71 (na := 3) (by decide +kernel) rfl ⟨by decide, by decide⟩ rfl (Nat.le_of_ble_eq_true rfl) rfl (fun r33 => ?_)
  first
    | refine x_ifb_ne 42 39 C dX12_sleeper_36 rfl rfl (fun h36 => ?_) (fun h36 => ?_)
    | refine x_if_ne 42 39 C dX12_sleeper_36 rfl rfl (by omega) (fun h36 => ?_) (fun h36 => ?_)
  rotate_left
  · refine x_bipush 41 C dX12_sleeper_39 rfl rfl ?_
    refine x_iret C T dX12_sleeper_41 ?_
    refine PI_i (by omega) ?_
    unfold rM_sleeper nM_sleeper
    refine ⟨?_, ?_⟩ <;> (first | rw [if_neg (by omega)] | (rw [if_pos (by omega), if_pos (by omega)]; done) | (rw [if_pos (by omega), if_pos (by omega)]; omega) | rw [if_pos (by omega), if_neg (by omega)])
  refine x_aload_n 43 C dX12_sleeper_42 rfl rfl rfl ?_
  refine x_geti (j := 18) 46 C rfl (lt79 (by decide)) rfl rfl (by decide) inT12 tb_4_152 rfl dX12_sleeper_43 rfl (fun r43 => ?_)
  refine x_iconst 47 C dX12_sleeper_46 rfl ?_
  refine x_icmp_ne 53 50 C dX12_sleeper_47 rfl rfl (by omega) (by omega) (fun h47 => ?_) (fun h47 => ?_)
  rotate_left
  · refine x_bipush 52 C dX12_sleeper_50 rfl rfl ?_
    refine x_iret C T dX12_sleeper_52 ?_
    refine PI_i (by omega) ?_
    unfold rM_sleeper nM_sleeper
    refine ⟨?_, ?_⟩ <;> (first | rw [if_neg (by omega)] | (rw [if_pos (by omega), if_pos (by omega)]; done) | (rw [if_pos (by omega), if_pos (by omega)]; omega) | rw [if_pos (by omega), if_neg (by omega)])
  refine x_aload_n 54 C dX12_sleeper_53 rfl rfl rfl ?_
  refine x_getr (j := 14) 57 C rfl (lt79 (by decide)) rfl rfl (by decide) inT12 tb_4_148 rfl dX12_sleeper_54 rfl ?_
  refine x_aload_n 58 C dX12_sleeper_57 rfl rfl rfl ?_
  refine x_geti (j := 18) 61 C rfl (lt79 (by decide)) rfl rfl (by decide) inT12 tb_4_152 rfl dX12_sleeper_58 rfl (fun r58 => ?_)
  refine x_iload_n 62 C dX12_sleeper_61 rfl rfl rfl ?_
  refine x_iast 63 C rfl (lt79 (by decide)) dX12_sleeper_62 rfl (by omega) (by omega) (by omega) ?_
  refine x_aload_n 64 C dX12_sleeper_63 rfl rfl rfl ?_
  refine x_getr (j := 15) 67 C rfl (lt79 (by decide)) rfl rfl (by decide) inT12 tb_4_149 rfl dX12_sleeper_64 rfl ?_
  refine x_aload_n 68 C dX12_sleeper_67 rfl rfl rfl ?_
  refine x_geti (j := 18) 71 C rfl (lt79 (by decide)) rfl rfl (by decide) inT12 tb_4_152 rfl dX12_sleeper_68 rfl (fun r68 => ?_)
  simp only [up_r (show (51 : Nat) ≠ 60 by decide)] at *
  refine x_iload_n 72 C dX12_sleeper_71 rfl rfl rfl ?_
  refine x_bipush 74 C dX12_sleeper_72 rfl rfl ?_
  refine x_irem 75 C dX12_sleeper_74 rfl (by omega) (by omega) ?_
  refine x_iast 76 C rfl (lt79 (by decide)) dX12_sleeper_75 rfl (by omega) (by omega) (by omega) ?_
  refine x_aload_n 77 C dX12_sleeper_76 rfl rfl rfl ?_
  refine x_getr (j := 16) 80 C rfl (lt79 (by decide)) rfl rfl (by decide) inT12 tb_4_150 rfl dX12_sleeper_77 rfl ?_
  refine x_aload_n 81 C dX12_sleeper_80 rfl rfl rfl ?_
  refine x_geti (j := 18) 84 C rfl (lt79 (by decide)) rfl rfl (by decide) inT12 tb_4_152 rfl dX12_sleeper_81 rfl (fun r81 => ?_)
  simp only [up_r (show (51 : Nat) ≠ 61 by decide), up_r (show (51 : Nat) ≠ 60 by decide)] at *
  refine x_iload_n 85 C dX12_sleeper_84 rfl rfl rfl ?_
  refine x_bipush 87 C dX12_sleeper_85 rfl rfl ?_
  refine x_idiv 88 C dX12_sleeper_87 rfl (by omega) (by omega) ?_
  refine x_iast 89 C rfl (lt79 (by decide)) dX12_sleeper_88 rfl (by omega) (by omega) (by omega) ?_
  refine x_aload_n 90 C dX12_sleeper_89 rfl rfl rfl ?_
  refine x_getr (j := 17) 93 C rfl (lt79 (by decide)) rfl rfl (by decide) inT12 tb_4_151 rfl dX12_sleeper_90 rfl ?_
  refine x_aload_n 94 C dX12_sleeper_93 rfl rfl rfl ?_
  refine x_geti (j := 18) 97 C rfl (lt79 (by decide)) rfl rfl (by decide) inT12 tb_4_152 rfl dX12_sleeper_94 rfl (fun r94 => ?_)
  simp only [up_r (show (51 : Nat) ≠ 62 by decide), up_r (show (51 : Nat) ≠ 61 by decide), up_r (show (51 : Nat) ≠ 60 by decide)] at *
  refine x_iload_n 98 C dX12_sleeper_97 rfl rfl rfl ?_
  refine x_iast 99 C rfl (lt79 (by decide)) dX12_sleeper_98 rfl (by omega) (by omega) (by omega) ?_
  refine x_aload_n 100 C dX12_sleeper_99 rfl rfl rfl ?_
  refine x_dup 101 C dX12_sleeper_100 rfl rfl ?_
  refine x_geti (j := 18) 104 C rfl (lt79 (by decide)) rfl rfl (by decide) inT12 tb_4_152 rfl dX12_sleeper_101 rfl (fun r101 => ?_)
  simp only [up_r (show (51 : Nat) ≠ 63 by decide), up_r (show (51 : Nat) ≠ 62 by decide), up_r (show (51 : Nat) ≠ 61 by decide), up_r (show (51 : Nat) ≠ 60 by decide)] at *
  refine x_iconst 105 C dX12_sleeper_104 rfl ?_
  refine x_iadd 106 C dX12_sleeper_105 rfl ?_
  refine x_puti (j := 18) tyX12 109 C rfl (lt79 (by decide)) rfl rfl (by decide) inT12 tyX12_ok nmX12 tb_4_152 rfl rfl rfl dX12_sleeper_106 rfl (by omega) ?_
  refine x_aload_n 110 C dX12_sleeper_109 rfl rfl rfl ?_
  refine x_geti (j := 18) 113 C rfl (lt79 (by decide)) rfl rfl (by decide) inT12 tb_4_152 rfl dX12_sleeper_110 rfl (fun r110 => ?_)
  rw [up_s] at *
  refine x_iconst 114 C dX12_sleeper_113 rfl ?_
  refine x_isub 115 C dX12_sleeper_114 rfl ?_
  refine x_iret C T dX12_sleeper_115 ?_
  refine PI_i (by omega) ?_
  unfold rM_sleeper nM_sleeper
  refine ⟨?_, ?_⟩ <;> (first | rw [if_neg (by omega)] | (rw [if_pos (by omega), if_pos (by omega)]; done) | (rw [if_pos (by omega), if_pos (by omega)]; omega) | rw [if_pos (by omega), if_neg (by omega)])

def rM_set (σ : Sig) (q f v : Int) : Int := if 0 ≤ q ∧ q ≤ 5 ∧ 0 ≤ f ∧ f < (if q ≤ 2 then σ 51 13 else σ 51 18) ∧ 0 ≤ v ∧ v ≤ mostF (if q ≤ 2 then q else q + 1) then σ (57 + q.toNat) f.toNat else -2
def nM_set (σ : Sig) (q f v : Int) : Sig := if 0 ≤ q ∧ q ≤ 5 ∧ 0 ≤ f ∧ f < (if q ≤ 2 then σ 51 13 else σ 51 18) ∧ 0 ≤ v ∧ v ≤ mostF (if q ≤ 2 then q else q + 1) then up σ (57 + q.toNat) f.toNat v else σ
set_option maxHeartbeats 4000000 in
set_option maxRecDepth 100000 in
theorem c_X12_set {l : Launch} {G : Gt} {ρ : Nat → Nat} {tc : Nat} {cl : Nat → Nat} {σ : Sig} {q f v : Int} (hq : -2147483648 ≤ q ∧ q ≤ 2147483647) (hf : -2147483648 ≤ f ∧ f ≤ 2147483647) (hv : -2147483648 ≤ v ∧ v ≤ 2147483647) (hT : MI σ) : MX l yX12_set cX12_set 5 (some .int) 2 46 G (NN tc) ρ (shp tc cl) [.ref (ρ 51), .int (iZ q), .int (iZ f), .int (iZ v)] σ (PI (fun z σ' => z = rM_set σ q f v ∧ σ' = nM_set σ q f v)) := by
  refine MX_of [some (.ref (ρ 51)), some (.int (iZ q)), some (.int (iZ f)), some (.int (iZ v)), none] (by decide +kernel) rfl rfl (Nat.le_of_ble_eq_true rfl) ?_
  intro K hKl C T hRng
  subst hKl
  have h3 := hT.2.2.1
  have h8 := hT.2.2.2.1
  have hi1 : q ≤ 2 → (if q ≤ 2 then σ 51 13 else σ 51 18) = σ 51 13 := fun h => if_pos h
  have hi2 : ¬ q ≤ 2 → (if q ≤ 2 then σ 51 13 else σ 51 18) = σ 51 18 := fun h => if_neg h
  refine x_iload_n 1 C dX12_set_0 rfl rfl rfl ?_
  refine x_i2l 2 C dX12_set_1 rfl (by omega) ?_
  refine x_lconst 3 C dX12_set_2 rfl 0 rfl ?_
  refine x_ldc2 (z := 5) 6 C tb_5_85 dX12_set_3 rfl ?_
  refine x_callSe 9 C dX12_set_6 rfl (c_X12_in (by omega) (by omega) (by omega)) tb_5_69 tb_5_70 tb_1_20 tb_5_71 (na := 3) (by decide +kernel) rfl ⟨by decide, by decide⟩ rfl (Nat.le_of_ble_eq_true rfl) rfl (fun r6 => ?_)
  first
    | refine x_ifb_eq 96 12 C dX12_set_9 rfl rfl (fun h9 => ?_) (fun h9 => ?_)
    | refine x_if_eq 96 12 C dX12_set_9 rfl rfl (by omega) (fun h9 => ?_) (fun h9 => ?_)
  · refine x_bipush 98 C dX12_set_96 rfl rfl ?_
    refine x_iret C T dX12_set_98 ?_
    refine PI_i (by omega) ?_
    unfold rM_set nM_set
    first
      | (refine ⟨?_, ?_⟩ <;> rw [if_neg (by omega)]; done)
      | (refine ⟨?_, ?_⟩ <;> rw [if_pos (by omega)]
         · exact hinv
         · first | (obtain rfl : q = 0 := (by omega); rfl) | (obtain rfl : q = 1 := (by omega); rfl) | (obtain rfl : q = 2 := (by omega); rfl) | (obtain rfl : q = 3 := (by omega); rfl) | (obtain rfl : q = 4 := (by omega); rfl) | (obtain rfl : q = 5 := (by omega); rfl) | (exfalso; omega))
  have J36 : ∀ (u : Unit), (0 ≤ f ∧ f < (if q ≤ 2 then σ 51 13 else σ 51 18)) → Ex K G (NN tc) ρ (shp tc cl) 36 [some (.ref (ρ 51)), some (.int (iZ q)), some (.int (iZ f)), some (.int (iZ v)), none] [] σ := by
    intro u hinv
    refine x_iload_n 37 C dX12_set_36 rfl rfl rfl ?_
    refine x_i2l 38 C dX12_set_37 rfl (by omega) ?_
    refine x_lconst 39 C dX12_set_38 rfl 0 rfl ?_
    have J90 : ∀ (w : Int), (w = mostF (if q ≤ 2 then q else q + 1)) → Ex K G (NN tc) ρ (shp tc cl) 90 [some (.ref (ρ 51)), some (.int (iZ q)), some (.int (iZ f)), some (.int (iZ v)), none] [.long (lZ w), .long (lZ 0), .long (lZ v)] σ := by
      intro w hinv
      have hm : 0 ≤ w ∧ w ≤ 99 := by rw [hinv]; exact mostF_in (by split <;> omega)
      refine x_callSe 93 C dX12_set_90 rfl (c_X12_in (by omega) (by omega) (by omega)) tb_5_69 tb_5_70 tb_1_20 tb_5_71 (na := 3) (by decide +kernel) rfl ⟨by decide, by decide⟩ rfl (Nat.le_of_ble_eq_true rfl) rfl (fun r90 => ?_)
      first
        | refine x_ifb_ne 99 96 C dX12_set_93 rfl rfl (fun h93 => ?_) (fun h93 => ?_)
        | refine x_if_ne 99 96 C dX12_set_93 rfl rfl (by omega) (fun h93 => ?_) (fun h93 => ?_)
      rotate_left
      · refine x_bipush 98 C dX12_set_96 rfl rfl ?_
        refine x_iret C T dX12_set_98 ?_
        refine PI_i (by omega) ?_
        unfold rM_set nM_set
        first
          | (refine ⟨?_, ?_⟩ <;> rw [if_neg (by omega)]; done)
          | (refine ⟨?_, ?_⟩ <;> rw [if_pos (by omega)]
             · exact hinv
             · first | (obtain rfl : q = 0 := (by omega); rfl) | (obtain rfl : q = 1 := (by omega); rfl) | (obtain rfl : q = 2 := (by omega); rfl) | (obtain rfl : q = 3 := (by omega); rfl) | (obtain rfl : q = 4 := (by omega); rfl) | (obtain rfl : q = 5 := (by omega); rfl) | (exfalso; omega))
      have J174 : ∀ (w : Int), (w = σ (57 + q.toNat) f.toNat) → Ex K G (NN tc) ρ (shp tc cl) 174 [some (.ref (ρ 51)), some (.int (iZ q)), some (.int (iZ f)), some (.int (iZ v)), none] [.int (iZ w)] σ := by
        intro w hinv
        have hw := hRng (57 + q.toNat) f.toNat (by omega)
        refine x_istore_4 176 C dX12_set_174 rfl rfl ?_
        refine x_iload_n 177 C dX12_set_176 rfl rfl rfl ?_
        first
          | refine x_ifb_ne 190 180 C dX12_set_177 rfl rfl (fun h177 => ?_) (fun h177 => ?_)
          | refine x_if_ne 190 180 C dX12_set_177 rfl rfl (by omega) (fun h177 => ?_) (fun h177 => ?_)
        rotate_left
        · refine x_aload_n 181 C dX12_set_180 rfl rfl rfl ?_
          refine x_getr (j := 10) 184 C rfl (lt79 (by decide)) rfl rfl (by decide) inT12 tb_4_144 rfl dX12_set_181 rfl ?_
          refine x_iload_n 185 C dX12_set_184 rfl rfl rfl ?_
          refine x_iload_n 186 C dX12_set_185 rfl rfl rfl ?_
          refine x_iast 187 C rfl (lt79 (by decide)) dX12_set_186 rfl (by omega) (by omega) (by omega) ?_
          refine x_goto 257 C dX12_set_187 rfl ?_
          refine x_iload 259 C dX12_set_257 rfl rfl ?_
          refine x_iret C T dX12_set_259 ?_
          refine PI_i (by omega) ?_
          unfold rM_set nM_set
          first
            | (refine ⟨?_, ?_⟩ <;> rw [if_neg (by omega)]; done)
            | (refine ⟨?_, ?_⟩ <;> rw [if_pos (by omega)]
               · exact hinv
               · first | (obtain rfl : q = 0 := (by omega); rfl) | (obtain rfl : q = 1 := (by omega); rfl) | (obtain rfl : q = 2 := (by omega); rfl) | (obtain rfl : q = 3 := (by omega); rfl) | (obtain rfl : q = 4 := (by omega); rfl) | (obtain rfl : q = 5 := (by omega); rfl) | (exfalso; omega))
        refine x_iload_n 191 C dX12_set_190 rfl rfl rfl ?_
        refine x_iconst 192 C dX12_set_191 rfl ?_
        refine x_icmp_ne 205 195 C dX12_set_192 rfl rfl (by omega) (by omega) (fun h192 => ?_) (fun h192 => ?_)
        rotate_left
        · refine x_aload_n 196 C dX12_set_195 rfl rfl rfl ?_
          refine x_getr (j := 11) 199 C rfl (lt79 (by decide)) rfl rfl (by decide) inT12 tb_4_145 rfl dX12_set_196 rfl ?_
          refine x_iload_n 200 C dX12_set_199 rfl rfl rfl ?_
          refine x_iload_n 201 C dX12_set_200 rfl rfl rfl ?_
          refine x_iast 202 C rfl (lt79 (by decide)) dX12_set_201 rfl (by omega) (by omega) (by omega) ?_
          refine x_goto 257 C dX12_set_202 rfl ?_
          refine x_iload 259 C dX12_set_257 rfl rfl ?_
          refine x_iret C T dX12_set_259 ?_
          refine PI_i (by omega) ?_
          unfold rM_set nM_set
          first
            | (refine ⟨?_, ?_⟩ <;> rw [if_neg (by omega)]; done)
            | (refine ⟨?_, ?_⟩ <;> rw [if_pos (by omega)]
               · exact hinv
               · first | (obtain rfl : q = 0 := (by omega); rfl) | (obtain rfl : q = 1 := (by omega); rfl) | (obtain rfl : q = 2 := (by omega); rfl) | (obtain rfl : q = 3 := (by omega); rfl) | (obtain rfl : q = 4 := (by omega); rfl) | (obtain rfl : q = 5 := (by omega); rfl) | (exfalso; omega))
        refine x_iload_n 206 C dX12_set_205 rfl rfl rfl ?_
        refine x_iconst 207 C dX12_set_206 rfl ?_
        refine x_icmp_ne 220 210 C dX12_set_207 rfl rfl (by omega) (by omega) (fun h207 => ?_) (fun h207 => ?_)
        rotate_left
        · refine x_aload_n 211 C dX12_set_210 rfl rfl rfl ?_
          refine x_getr (j := 12) 214 C rfl (lt79 (by decide)) rfl rfl (by decide) inT12 tb_4_146 rfl dX12_set_211 rfl ?_
          refine x_iload_n 215 C dX12_set_214 rfl rfl rfl ?_
          refine x_iload_n 216 C dX12_set_215 rfl rfl rfl ?_
          refine x_iast 217 C rfl (lt79 (by decide)) dX12_set_216 rfl (by omega) (by omega) (by omega) ?_
          refine x_goto 257 C dX12_set_217 rfl ?_
          refine x_iload 259 C dX12_set_257 rfl rfl ?_
          refine x_iret C T dX12_set_259 ?_
          refine PI_i (by omega) ?_
          unfold rM_set nM_set
          first
            | (refine ⟨?_, ?_⟩ <;> rw [if_neg (by omega)]; done)
            | (refine ⟨?_, ?_⟩ <;> rw [if_pos (by omega)]
               · exact hinv
               · first | (obtain rfl : q = 0 := (by omega); rfl) | (obtain rfl : q = 1 := (by omega); rfl) | (obtain rfl : q = 2 := (by omega); rfl) | (obtain rfl : q = 3 := (by omega); rfl) | (obtain rfl : q = 4 := (by omega); rfl) | (obtain rfl : q = 5 := (by omega); rfl) | (exfalso; omega))
        refine x_iload_n 221 C dX12_set_220 rfl rfl rfl ?_
        refine x_iconst 222 C dX12_set_221 rfl ?_
        refine x_icmp_ne 235 225 C dX12_set_222 rfl rfl (by omega) (by omega) (fun h222 => ?_) (fun h222 => ?_)
        rotate_left
        · refine x_aload_n 226 C dX12_set_225 rfl rfl rfl ?_
          refine x_getr (j := 14) 229 C rfl (lt79 (by decide)) rfl rfl (by decide) inT12 tb_4_148 rfl dX12_set_226 rfl ?_
          refine x_iload_n 230 C dX12_set_229 rfl rfl rfl ?_
          refine x_iload_n 231 C dX12_set_230 rfl rfl rfl ?_
          refine x_iast 232 C rfl (lt79 (by decide)) dX12_set_231 rfl (by omega) (by omega) (by omega) ?_
          refine x_goto 257 C dX12_set_232 rfl ?_
          refine x_iload 259 C dX12_set_257 rfl rfl ?_
          refine x_iret C T dX12_set_259 ?_
          refine PI_i (by omega) ?_
          unfold rM_set nM_set
          first
            | (refine ⟨?_, ?_⟩ <;> rw [if_neg (by omega)]; done)
            | (refine ⟨?_, ?_⟩ <;> rw [if_pos (by omega)]
               · exact hinv
               · first | (obtain rfl : q = 0 := (by omega); rfl) | (obtain rfl : q = 1 := (by omega); rfl) | (obtain rfl : q = 2 := (by omega); rfl) | (obtain rfl : q = 3 := (by omega); rfl) | (obtain rfl : q = 4 := (by omega); rfl) | (obtain rfl : q = 5 := (by omega); rfl) | (exfalso; omega))
        refine x_iload_n 236 C dX12_set_235 rfl rfl rfl ?_
        refine x_iconst 237 C dX12_set_236 rfl ?_
        refine x_icmp_ne 250 240 C dX12_set_237 rfl rfl (by omega) (by omega) (fun h237 => ?_) (fun h237 => ?_)
        · refine x_aload_n 251 C dX12_set_250 rfl rfl rfl ?_
          refine x_getr (j := 16) 254 C rfl (lt79 (by decide)) rfl rfl (by decide) inT12 tb_4_150 rfl dX12_set_251 rfl ?_
          refine x_iload_n 255 C dX12_set_254 rfl rfl rfl ?_
          refine x_iload_n 256 C dX12_set_255 rfl rfl rfl ?_
          refine x_iast 257 C rfl (lt79 (by decide)) dX12_set_256 rfl (by omega) (by omega) (by omega) ?_
          refine x_iload 259 C dX12_set_257 rfl rfl ?_
          refine x_iret C T dX12_set_259 ?_
          refine PI_i (by omega) ?_
          unfold rM_set nM_set
          first
            | (refine ⟨?_, ?_⟩ <;> rw [if_neg (by omega)]; done)
            | (refine ⟨?_, ?_⟩ <;> rw [if_pos (by omega)]
               · exact hinv
               · first | (obtain rfl : q = 0 := (by omega); rfl) | (obtain rfl : q = 1 := (by omega); rfl) | (obtain rfl : q = 2 := (by omega); rfl) | (obtain rfl : q = 3 := (by omega); rfl) | (obtain rfl : q = 4 := (by omega); rfl) | (obtain rfl : q = 5 := (by omega); rfl) | (exfalso; omega))
        refine x_aload_n 241 C dX12_set_240 rfl rfl rfl ?_
        refine x_getr (j := 15) 244 C rfl (lt79 (by decide)) rfl rfl (by decide) inT12 tb_4_149 rfl dX12_set_241 rfl ?_
        refine x_iload_n 245 C dX12_set_244 rfl rfl rfl ?_
        refine x_iload_n 246 C dX12_set_245 rfl rfl rfl ?_
        refine x_iast 247 C rfl (lt79 (by decide)) dX12_set_246 rfl (by omega) (by omega) (by omega) ?_
        refine x_goto 257 C dX12_set_247 rfl ?_
        refine x_iload 259 C dX12_set_257 rfl rfl ?_
        refine x_iret C T dX12_set_259 ?_
        refine PI_i (by omega) ?_
        unfold rM_set nM_set
        first
          | (refine ⟨?_, ?_⟩ <;> rw [if_neg (by omega)]; done)
          | (refine ⟨?_, ?_⟩ <;> rw [if_pos (by omega)]
             · exact hinv
             · first | (obtain rfl : q = 0 := (by omega); rfl) | (obtain rfl : q = 1 := (by omega); rfl) | (obtain rfl : q = 2 := (by omega); rfl) | (obtain rfl : q = 3 := (by omega); rfl) | (obtain rfl : q = 4 := (by omega); rfl) | (obtain rfl : q = 5 := (by omega); rfl) | (exfalso; omega))
      refine x_iload_n 100 C dX12_set_99 rfl rfl rfl ?_
      first
        | refine x_ifb_ne 112 103 C dX12_set_100 rfl rfl (fun h100 => ?_) (fun h100 => ?_)
        | refine x_if_ne 112 103 C dX12_set_100 rfl rfl (by omega) (fun h100 => ?_) (fun h100 => ?_)
      rotate_left
      · refine x_aload_n 104 C dX12_set_103 rfl rfl rfl ?_
        refine x_getr (j := 10) 107 C rfl (lt79 (by decide)) rfl rfl (by decide) inT12 tb_4_144 rfl dX12_set_104 rfl ?_
        refine x_iload_n 108 C dX12_set_107 rfl rfl rfl ?_
        refine x_iald 109 C rfl (lt79 (by decide)) dX12_set_108 rfl (by omega) (by omega) (fun r108 => ?_)
        refine x_goto 174 C dX12_set_109 rfl ?_
        refine J174 _ ?_
        first | (obtain rfl : q = 0 := (by omega); rfl) | (obtain rfl : q = 1 := (by omega); rfl) | (obtain rfl : q = 2 := (by omega); rfl) | (obtain rfl : q = 3 := (by omega); rfl) | (obtain rfl : q = 4 := (by omega); rfl) | (obtain rfl : q = 5 := (by omega); rfl) | (exfalso; omega)
      refine x_iload_n 113 C dX12_set_112 rfl rfl rfl ?_
      refine x_iconst 114 C dX12_set_113 rfl ?_
      refine x_icmp_ne 126 117 C dX12_set_114 rfl rfl (by omega) (by omega) (fun h114 => ?_) (fun h114 => ?_)
      rotate_left
      · refine x_aload_n 118 C dX12_set_117 rfl rfl rfl ?_
        refine x_getr (j := 11) 121 C rfl (lt79 (by decide)) rfl rfl (by decide) inT12 tb_4_145 rfl dX12_set_118 rfl ?_
        refine x_iload_n 122 C dX12_set_121 rfl rfl rfl ?_
        refine x_iald 123 C rfl (lt79 (by decide)) dX12_set_122 rfl (by omega) (by omega) (fun r122 => ?_)
        refine x_goto 174 C dX12_set_123 rfl ?_
        refine J174 _ ?_
        first | (obtain rfl : q = 0 := (by omega); rfl) | (obtain rfl : q = 1 := (by omega); rfl) | (obtain rfl : q = 2 := (by omega); rfl) | (obtain rfl : q = 3 := (by omega); rfl) | (obtain rfl : q = 4 := (by omega); rfl) | (obtain rfl : q = 5 := (by omega); rfl) | (exfalso; omega)
      refine x_iload_n 127 C dX12_set_126 rfl rfl rfl ?_
      refine x_iconst 128 C dX12_set_127 rfl ?_
      refine x_icmp_ne 140 131 C dX12_set_128 rfl rfl (by omega) (by omega) (fun h128 => ?_) (fun h128 => ?_)
      rotate_left
      · refine x_aload_n 132 C dX12_set_131 rfl rfl rfl ?_
        refine x_getr (j := 12) 135 C rfl (lt79 (by decide)) rfl rfl (by decide) inT12 tb_4_146 rfl dX12_set_132 rfl ?_
        refine x_iload_n 136 C dX12_set_135 rfl rfl rfl ?_
        refine x_iald 137 C rfl (lt79 (by decide)) dX12_set_136 rfl (by omega) (by omega) (fun r136 => ?_)
        refine x_goto 174 C dX12_set_137 rfl ?_
        refine J174 _ ?_
        first | (obtain rfl : q = 0 := (by omega); rfl) | (obtain rfl : q = 1 := (by omega); rfl) | (obtain rfl : q = 2 := (by omega); rfl) | (obtain rfl : q = 3 := (by omega); rfl) | (obtain rfl : q = 4 := (by omega); rfl) | (obtain rfl : q = 5 := (by omega); rfl) | (exfalso; omega)
      refine x_iload_n 141 C dX12_set_140 rfl rfl rfl ?_
      refine x_iconst 142 C dX12_set_141 rfl ?_
      refine x_icmp_ne 154 145 C dX12_set_142 rfl rfl (by omega) (by omega) (fun h142 => ?_) (fun h142 => ?_)
      rotate_left
      · refine x_aload_n 146 C dX12_set_145 rfl rfl rfl ?_
        refine x_getr (j := 14) 149 C rfl (lt79 (by decide)) rfl rfl (by decide) inT12 tb_4_148 rfl dX12_set_146 rfl ?_
        refine x_iload_n 150 C dX12_set_149 rfl rfl rfl ?_
        refine x_iald 151 C rfl (lt79 (by decide)) dX12_set_150 rfl (by omega) (by omega) (fun r150 => ?_)
        refine x_goto 174 C dX12_set_151 rfl ?_
        refine J174 _ ?_
        first | (obtain rfl : q = 0 := (by omega); rfl) | (obtain rfl : q = 1 := (by omega); rfl) | (obtain rfl : q = 2 := (by omega); rfl) | (obtain rfl : q = 3 := (by omega); rfl) | (obtain rfl : q = 4 := (by omega); rfl) | (obtain rfl : q = 5 := (by omega); rfl) | (exfalso; omega)
      refine x_iload_n 155 C dX12_set_154 rfl rfl rfl ?_
      refine x_iconst 156 C dX12_set_155 rfl ?_
      refine x_icmp_ne 168 159 C dX12_set_156 rfl rfl (by omega) (by omega) (fun h156 => ?_) (fun h156 => ?_)
      · refine x_aload_n 169 C dX12_set_168 rfl rfl rfl ?_
        refine x_getr (j := 16) 172 C rfl (lt79 (by decide)) rfl rfl (by decide) inT12 tb_4_150 rfl dX12_set_169 rfl ?_
        refine x_iload_n 173 C dX12_set_172 rfl rfl rfl ?_
        refine x_iald 174 C rfl (lt79 (by decide)) dX12_set_173 rfl (by omega) (by omega) (fun r173 => ?_)
        refine J174 _ ?_
        first | (obtain rfl : q = 0 := (by omega); rfl) | (obtain rfl : q = 1 := (by omega); rfl) | (obtain rfl : q = 2 := (by omega); rfl) | (obtain rfl : q = 3 := (by omega); rfl) | (obtain rfl : q = 4 := (by omega); rfl) | (obtain rfl : q = 5 := (by omega); rfl) | (exfalso; omega)
      refine x_aload_n 160 C dX12_set_159 rfl rfl rfl ?_
      refine x_getr (j := 15) 163 C rfl (lt79 (by decide)) rfl rfl (by decide) inT12 tb_4_149 rfl dX12_set_160 rfl ?_
      refine x_iload_n 164 C dX12_set_163 rfl rfl rfl ?_
      refine x_iald 165 C rfl (lt79 (by decide)) dX12_set_164 rfl (by omega) (by omega) (fun r164 => ?_)
      refine x_goto 174 C dX12_set_165 rfl ?_
      refine J174 _ ?_
      first | (obtain rfl : q = 0 := (by omega); rfl) | (obtain rfl : q = 1 := (by omega); rfl) | (obtain rfl : q = 2 := (by omega); rfl) | (obtain rfl : q = 3 := (by omega); rfl) | (obtain rfl : q = 4 := (by omega); rfl) | (obtain rfl : q = 5 := (by omega); rfl) | (exfalso; omega)
    refine x_iload_n 40 C dX12_set_39 rfl rfl rfl ?_
    first
      | refine x_ifb_eq 48 43 C dX12_set_40 rfl rfl (fun h40 => ?_) (fun h40 => ?_)
      | refine x_if_eq 48 43 C dX12_set_40 rfl rfl (by omega) (fun h40 => ?_) (fun h40 => ?_)
    · refine x_ldc2 (z := 35) 51 C tb_5_75 dX12_set_48 rfl ?_
      refine x_goto 90 C dX12_set_51 rfl ?_
      refine J90 _ ?_
      first | (rw [h45, if_neg (by omega)]; rfl) | (obtain rfl : q = 0 := (by omega); first | rfl | decide) | (obtain rfl : q = 3 := (by omega); first | rfl | decide) | (obtain rfl : q = 1 := (by omega); first | rfl | decide) | (obtain rfl : q = 2 := (by omega); first | rfl | decide) | (obtain rfl : q = 4 := (by omega); first | rfl | decide) | (obtain rfl : q = 5 := (by omega); first | rfl | decide) | (exfalso; omega)
    refine x_iload_n 44 C dX12_set_43 rfl rfl rfl ?_
    refine x_iconst 45 C dX12_set_44 rfl ?_
    refine x_icmp_ne 54 48 C dX12_set_45 rfl rfl (by omega) (by omega) (fun h45 => ?_) (fun h45 => ?_)
    rotate_left
    · refine x_ldc2 (z := 35) 51 C tb_5_75 dX12_set_48 rfl ?_
      refine x_goto 90 C dX12_set_51 rfl ?_
      refine J90 _ ?_
      first | (rw [h45, if_neg (by omega)]; rfl) | (obtain rfl : q = 0 := (by omega); first | rfl | decide) | (obtain rfl : q = 3 := (by omega); first | rfl | decide) | (obtain rfl : q = 1 := (by omega); first | rfl | decide) | (obtain rfl : q = 2 := (by omega); first | rfl | decide) | (obtain rfl : q = 4 := (by omega); first | rfl | decide) | (obtain rfl : q = 5 := (by omega); first | rfl | decide) | (exfalso; omega)
    refine x_iload_n 55 C dX12_set_54 rfl rfl rfl ?_
    refine x_iconst 56 C dX12_set_55 rfl ?_
    refine x_icmp_ne 65 59 C dX12_set_56 rfl rfl (by omega) (by omega) (fun h56 => ?_) (fun h56 => ?_)
    rotate_left
    · refine x_ldc2 (z := 99) 62 C tb_5_92 dX12_set_59 rfl ?_
      refine x_goto 90 C dX12_set_62 rfl ?_
      refine J90 _ ?_
      first | (rw [h45, if_neg (by omega)]; rfl) | (obtain rfl : q = 0 := (by omega); first | rfl | decide) | (obtain rfl : q = 3 := (by omega); first | rfl | decide) | (obtain rfl : q = 1 := (by omega); first | rfl | decide) | (obtain rfl : q = 2 := (by omega); first | rfl | decide) | (obtain rfl : q = 4 := (by omega); first | rfl | decide) | (obtain rfl : q = 5 := (by omega); first | rfl | decide) | (exfalso; omega)
    refine x_iload_n 66 C dX12_set_65 rfl rfl rfl ?_
    refine x_iconst 67 C dX12_set_66 rfl ?_
    refine x_icmp_ne 76 70 C dX12_set_67 rfl rfl (by omega) (by omega) (fun h67 => ?_) (fun h67 => ?_)
    rotate_left
    · refine x_ldc2 (z := 9) 73 C tb_5_76 dX12_set_70 rfl ?_
      refine x_goto 90 C dX12_set_73 rfl ?_
      refine J90 _ ?_
      first | (rw [h45, if_neg (by omega)]; rfl) | (obtain rfl : q = 0 := (by omega); first | rfl | decide) | (obtain rfl : q = 3 := (by omega); first | rfl | decide) | (obtain rfl : q = 1 := (by omega); first | rfl | decide) | (obtain rfl : q = 2 := (by omega); first | rfl | decide) | (obtain rfl : q = 4 := (by omega); first | rfl | decide) | (obtain rfl : q = 5 := (by omega); first | rfl | decide) | (exfalso; omega)
    refine x_iload_n 77 C dX12_set_76 rfl rfl rfl ?_
    refine x_iconst 78 C dX12_set_77 rfl ?_
    refine x_icmp_ne 87 81 C dX12_set_78 rfl rfl (by omega) (by omega) (fun h78 => ?_) (fun h78 => ?_)
    · refine x_ldc2 (z := 23) 90 C tb_5_106 dX12_set_87 rfl ?_
      refine J90 _ ?_
      first | (rw [h45, if_neg (by omega)]; rfl) | (obtain rfl : q = 0 := (by omega); first | rfl | decide) | (obtain rfl : q = 3 := (by omega); first | rfl | decide) | (obtain rfl : q = 1 := (by omega); first | rfl | decide) | (obtain rfl : q = 2 := (by omega); first | rfl | decide) | (obtain rfl : q = 4 := (by omega); first | rfl | decide) | (obtain rfl : q = 5 := (by omega); first | rfl | decide) | (exfalso; omega)
    refine x_ldc2 (z := 3) 84 C tb_5_105 dX12_set_81 rfl ?_
    refine x_goto 90 C dX12_set_84 rfl ?_
    refine J90 _ ?_
    first | (rw [h45, if_neg (by omega)]; rfl) | (obtain rfl : q = 0 := (by omega); first | rfl | decide) | (obtain rfl : q = 3 := (by omega); first | rfl | decide) | (obtain rfl : q = 1 := (by omega); first | rfl | decide) | (obtain rfl : q = 2 := (by omega); first | rfl | decide) | (obtain rfl : q = 4 := (by omega); first | rfl | decide) | (obtain rfl : q = 5 := (by omega); first | rfl | decide) | (exfalso; omega)
  refine x_iload_n 13 C dX12_set_12 rfl rfl rfl ?_
  refine x_iconst 14 C dX12_set_13 rfl ?_
  refine x_icmp_ge 28 17 C dX12_set_14 rfl rfl (by omega) (by omega) (fun h14 => ?_) (fun h14 => ?_)
  · refine x_aload_n 29 C dX12_set_28 rfl rfl rfl ?_
    refine x_iload_n 30 C dX12_set_29 rfl rfl rfl ?_
    refine x_callVe 33 C dX12_set_30 rfl (c_X12_isOne (by omega) hT) rfl (lt79 (by decide)) rfl tb_5_101 tb_5_103 tb_0_38 tb_1_20 tb_5_104 (na := 1) (by decide +kernel) rfl ⟨by decide, by decide⟩ rfl (Nat.le_of_ble_eq_true rfl) rfl (fun r30 => ?_)
    first
      | refine x_ifb_eq 96 36 C dX12_set_33 rfl rfl (fun h33 => ?_) (fun h33 => ?_)
      | refine x_if_eq 96 36 C dX12_set_33 rfl rfl (by omega) (fun h33 => ?_) (fun h33 => ?_)
    · refine x_bipush 98 C dX12_set_96 rfl rfl ?_
      refine x_iret C T dX12_set_98 ?_
      refine PI_i (by omega) ?_
      unfold rM_set nM_set
      first
        | (refine ⟨?_, ?_⟩ <;> rw [if_neg (by omega)]; done)
        | (refine ⟨?_, ?_⟩ <;> rw [if_pos (by omega)]
           · exact hinv
           · first | (obtain rfl : q = 0 := (by omega); rfl) | (obtain rfl : q = 1 := (by omega); rfl) | (obtain rfl : q = 2 := (by omega); rfl) | (obtain rfl : q = 3 := (by omega); rfl) | (obtain rfl : q = 4 := (by omega); rfl) | (obtain rfl : q = 5 := (by omega); rfl) | (exfalso; omega))
    exact J36 () (by omega)
  refine x_aload_n 18 C dX12_set_17 rfl rfl rfl ?_
  refine x_iload_n 19 C dX12_set_18 rfl rfl rfl ?_
  refine x_callVe 22 C dX12_set_19 rfl (c_X12_isThing (by omega) hT) rfl (lt79 (by decide)) rfl tb_5_97 tb_5_99 tb_0_37 tb_1_20 tb_5_100 (na := 1) (by decide +kernel) rfl ⟨by decide, by decide⟩ rfl (Nat.le_of_ble_eq_true rfl) rfl (fun r19 => ?_)
  first
    | refine x_ifb_eq 96 25 C dX12_set_22 rfl rfl (fun h22 => ?_) (fun h22 => ?_)
    | refine x_if_eq 96 25 C dX12_set_22 rfl rfl (by omega) (fun h22 => ?_) (fun h22 => ?_)
  · refine x_bipush 98 C dX12_set_96 rfl rfl ?_
    refine x_iret C T dX12_set_98 ?_
    refine PI_i (by omega) ?_
    unfold rM_set nM_set
    first
      | (refine ⟨?_, ?_⟩ <;> rw [if_neg (by omega)]; done)
      | (refine ⟨?_, ?_⟩ <;> rw [if_pos (by omega)]
         · exact hinv
         · first | (obtain rfl : q = 0 := (by omega); rfl) | (obtain rfl : q = 1 := (by omega); rfl) | (obtain rfl : q = 2 := (by omega); rfl) | (obtain rfl : q = 3 := (by omega); rfl) | (obtain rfl : q = 4 := (by omega); rfl) | (obtain rfl : q = 5 := (by omega); rfl) | (exfalso; omega))
  refine x_goto 36 C dX12_set_25 rfl ?_
  exact J36 () (by omega)

set_option maxHeartbeats 4000000 in
set_option maxRecDepth 100000 in
theorem c_X12_told {l : Launch} {G : Gt} {ρ : Nat → Nat} {tc : Nat} {cl : Nat → Nat} {σ : Sig} {f w : Int} (hf : -2147483648 ≤ f ∧ f ≤ 2147483647) (hw : -2147483648 ≤ w ∧ w ≤ 2147483647) (hT : MI σ) : MX l yX12_told cX12_told 3 (some .int) 2 46 G (NN tc) ρ (shp tc cl) [.ref (ρ 51), .int (iZ f), .int (iZ w)] σ (PE σ (if 0 ≤ w ∧ w ≤ 7 ∧ 0 ≤ f ∧ f < (if w ≤ 3 then σ 51 13 else σ 51 18) then mT σ (3 + w.toNat) f.toNat else -2)) := by
  refine MX_of [some (.ref (ρ 51)), some (.int (iZ f)), some (.int (iZ w))] (by decide +kernel) rfl rfl (Nat.le_of_ble_eq_true rfl) ?_
  intro K hKl C T hRng
  subst hKl
  have h3 := hT.2.2.1
  have h8 := hT.2.2.2.1
  have hi1 : w ≤ 3 → (if w ≤ 3 then σ 51 13 else σ 51 18) = σ 51 13 := fun h => if_pos h
  have hi2 : ¬ w ≤ 3 → (if w ≤ 3 then σ 51 13 else σ 51 18) = σ 51 18 := fun h => if_neg h
  refine x_iload_n 1 C dX12_told_0 rfl rfl rfl ?_
  refine x_i2l 2 C dX12_told_1 rfl (by omega) ?_
  refine x_lconst 3 C dX12_told_2 rfl 0 rfl ?_
  refine x_ldc2 (z := 7) 6 C tb_5_111 dX12_told_3 rfl ?_
  refine x_callSe 9 C dX12_told_6 rfl (c_X12_in (by omega) (by omega) (by omega)) tb_5_69 tb_5_70 tb_1_20 tb_5_71 (na := 3) (by decide +kernel) rfl ⟨by decide, by decide⟩ rfl (Nat.le_of_ble_eq_true rfl) rfl (fun r6 => ?_)
  first
    | refine x_ifb_eq 36 12 C dX12_told_9 rfl rfl (fun h9 => ?_) (fun h9 => ?_)
    | refine x_if_eq 36 12 C dX12_told_9 rfl rfl (by omega) (fun h9 => ?_) (fun h9 => ?_)
  · refine x_bipush 38 C dX12_told_36 rfl rfl ?_
    refine x_iret C T dX12_told_38 ?_
    refine PE_i ?_ (by omega)
    first | (rw [if_neg (by omega)]; done) | (rw [if_pos (by omega)]; first | (exfalso; omega) | (obtain rfl : w = 0 := (by omega); rfl) | (obtain rfl : w = 1 := (by omega); rfl) | (obtain rfl : w = 2 := (by omega); rfl) | (obtain rfl : w = 3 := (by omega); rfl) | (obtain rfl : w = 4 := (by omega); rfl) | (obtain rfl : w = 5 := (by omega); rfl) | (obtain rfl : w = 6 := (by omega); rfl) | (obtain rfl : w = 7 := (by omega); rfl))
  have J39 : ∀ (u : Unit), (0 ≤ f ∧ f < (if w ≤ 3 then σ 51 13 else σ 51 18)) → Ex K G (NN tc) ρ (shp tc cl) 39 [some (.ref (ρ 51)), some (.int (iZ f)), some (.int (iZ w))] [] σ := by
    intro u hinv
    refine x_iload_n 40 C dX12_told_39 rfl rfl rfl ?_
    refine x_iconst 41 C dX12_told_40 rfl ?_
    refine x_icmp_ge 92 44 C dX12_told_41 rfl rfl (by omega) (by omega) (fun h41 => ?_) (fun h41 => ?_)
    · refine x_iload_n 93 C dX12_told_92 rfl rfl rfl ?_
      refine x_iconst 94 C dX12_told_93 rfl ?_
      refine x_icmp_ne 106 97 C dX12_told_94 rfl rfl (by omega) (by omega) (fun h94 => ?_) (fun h94 => ?_)
      rotate_left
      · refine x_aload_n 98 C dX12_told_97 rfl rfl rfl ?_
        refine x_getr (j := 14) 101 C rfl (lt79 (by decide)) rfl rfl (by decide) inT12 tb_4_148 rfl dX12_told_98 rfl ?_
        refine x_iload_n 102 C dX12_told_101 rfl rfl rfl ?_
        refine x_iald 103 C rfl (lt79 (by decide)) dX12_told_102 rfl (by omega) (by omega) (fun r102 => ?_)
        refine x_goto 141 C dX12_told_103 rfl ?_
        refine x_iret C T dX12_told_141 ?_
        refine PE_i ?_ (by omega)
        first | (rw [if_neg (by omega)]; done) | (rw [if_pos (by omega)]; first | (exfalso; omega) | (obtain rfl : w = 0 := (by omega); rfl) | (obtain rfl : w = 1 := (by omega); rfl) | (obtain rfl : w = 2 := (by omega); rfl) | (obtain rfl : w = 3 := (by omega); rfl) | (obtain rfl : w = 4 := (by omega); rfl) | (obtain rfl : w = 5 := (by omega); rfl) | (obtain rfl : w = 6 := (by omega); rfl) | (obtain rfl : w = 7 := (by omega); rfl))
      refine x_iload_n 107 C dX12_told_106 rfl rfl rfl ?_
      refine x_iconst 108 C dX12_told_107 rfl ?_
      refine x_icmp_ne 120 111 C dX12_told_108 rfl rfl (by omega) (by omega) (fun h108 => ?_) (fun h108 => ?_)
      rotate_left
      · refine x_aload_n 112 C dX12_told_111 rfl rfl rfl ?_
        refine x_getr (j := 15) 115 C rfl (lt79 (by decide)) rfl rfl (by decide) inT12 tb_4_149 rfl dX12_told_112 rfl ?_
        refine x_iload_n 116 C dX12_told_115 rfl rfl rfl ?_
        refine x_iald 117 C rfl (lt79 (by decide)) dX12_told_116 rfl (by omega) (by omega) (fun r116 => ?_)
        refine x_goto 141 C dX12_told_117 rfl ?_
        refine x_iret C T dX12_told_141 ?_
        refine PE_i ?_ (by omega)
        first | (rw [if_neg (by omega)]; done) | (rw [if_pos (by omega)]; first | (exfalso; omega) | (obtain rfl : w = 0 := (by omega); rfl) | (obtain rfl : w = 1 := (by omega); rfl) | (obtain rfl : w = 2 := (by omega); rfl) | (obtain rfl : w = 3 := (by omega); rfl) | (obtain rfl : w = 4 := (by omega); rfl) | (obtain rfl : w = 5 := (by omega); rfl) | (obtain rfl : w = 6 := (by omega); rfl) | (obtain rfl : w = 7 := (by omega); rfl))
      refine x_iload_n 121 C dX12_told_120 rfl rfl rfl ?_
      refine x_bipush 123 C dX12_told_121 rfl rfl ?_
      refine x_icmp_ne 135 126 C dX12_told_123 rfl rfl (by omega) (by omega) (fun h123 => ?_) (fun h123 => ?_)
      · refine x_aload_n 136 C dX12_told_135 rfl rfl rfl ?_
        refine x_getr (j := 17) 139 C rfl (lt79 (by decide)) rfl rfl (by decide) inT12 tb_4_151 rfl dX12_told_136 rfl ?_
        refine x_iload_n 140 C dX12_told_139 rfl rfl rfl ?_
        refine x_iald 141 C rfl (lt79 (by decide)) dX12_told_140 rfl (by omega) (by omega) (fun r140 => ?_)
        refine x_iret C T dX12_told_141 ?_
        refine PE_i ?_ (by omega)
        first | (rw [if_neg (by omega)]; done) | (rw [if_pos (by omega)]; first | (exfalso; omega) | (obtain rfl : w = 0 := (by omega); rfl) | (obtain rfl : w = 1 := (by omega); rfl) | (obtain rfl : w = 2 := (by omega); rfl) | (obtain rfl : w = 3 := (by omega); rfl) | (obtain rfl : w = 4 := (by omega); rfl) | (obtain rfl : w = 5 := (by omega); rfl) | (obtain rfl : w = 6 := (by omega); rfl) | (obtain rfl : w = 7 := (by omega); rfl))
      refine x_aload_n 127 C dX12_told_126 rfl rfl rfl ?_
      refine x_getr (j := 16) 130 C rfl (lt79 (by decide)) rfl rfl (by decide) inT12 tb_4_150 rfl dX12_told_127 rfl ?_
      refine x_iload_n 131 C dX12_told_130 rfl rfl rfl ?_
      refine x_iald 132 C rfl (lt79 (by decide)) dX12_told_131 rfl (by omega) (by omega) (fun r131 => ?_)
      refine x_goto 141 C dX12_told_132 rfl ?_
      refine x_iret C T dX12_told_141 ?_
      refine PE_i ?_ (by omega)
      first | (rw [if_neg (by omega)]; done) | (rw [if_pos (by omega)]; first | (exfalso; omega) | (obtain rfl : w = 0 := (by omega); rfl) | (obtain rfl : w = 1 := (by omega); rfl) | (obtain rfl : w = 2 := (by omega); rfl) | (obtain rfl : w = 3 := (by omega); rfl) | (obtain rfl : w = 4 := (by omega); rfl) | (obtain rfl : w = 5 := (by omega); rfl) | (obtain rfl : w = 6 := (by omega); rfl) | (obtain rfl : w = 7 := (by omega); rfl))
    refine x_iload_n 45 C dX12_told_44 rfl rfl rfl ?_
    first
      | refine x_ifb_ne 57 48 C dX12_told_45 rfl rfl (fun h45 => ?_) (fun h45 => ?_)
      | refine x_if_ne 57 48 C dX12_told_45 rfl rfl (by omega) (fun h45 => ?_) (fun h45 => ?_)
    rotate_left
    · refine x_aload_n 49 C dX12_told_48 rfl rfl rfl ?_
      refine x_getr (j := 10) 52 C rfl (lt79 (by decide)) rfl rfl (by decide) inT12 tb_4_144 rfl dX12_told_49 rfl ?_
      refine x_iload_n 53 C dX12_told_52 rfl rfl rfl ?_
      refine x_iald 54 C rfl (lt79 (by decide)) dX12_told_53 rfl (by omega) (by omega) (fun r53 => ?_)
      refine x_goto 91 C dX12_told_54 rfl ?_
      refine x_iret C T dX12_told_91 ?_
      refine PE_i ?_ (by omega)
      first | (rw [if_neg (by omega)]; done) | (rw [if_pos (by omega)]; first | (exfalso; omega) | (obtain rfl : w = 0 := (by omega); rfl) | (obtain rfl : w = 1 := (by omega); rfl) | (obtain rfl : w = 2 := (by omega); rfl) | (obtain rfl : w = 3 := (by omega); rfl) | (obtain rfl : w = 4 := (by omega); rfl) | (obtain rfl : w = 5 := (by omega); rfl) | (obtain rfl : w = 6 := (by omega); rfl) | (obtain rfl : w = 7 := (by omega); rfl))
    refine x_iload_n 58 C dX12_told_57 rfl rfl rfl ?_
    refine x_iconst 59 C dX12_told_58 rfl ?_
    refine x_icmp_ne 71 62 C dX12_told_59 rfl rfl (by omega) (by omega) (fun h59 => ?_) (fun h59 => ?_)
    rotate_left
    · refine x_aload_n 63 C dX12_told_62 rfl rfl rfl ?_
      refine x_getr (j := 11) 66 C rfl (lt79 (by decide)) rfl rfl (by decide) inT12 tb_4_145 rfl dX12_told_63 rfl ?_
      refine x_iload_n 67 C dX12_told_66 rfl rfl rfl ?_
      refine x_iald 68 C rfl (lt79 (by decide)) dX12_told_67 rfl (by omega) (by omega) (fun r67 => ?_)
      refine x_goto 91 C dX12_told_68 rfl ?_
      refine x_iret C T dX12_told_91 ?_
      refine PE_i ?_ (by omega)
      first | (rw [if_neg (by omega)]; done) | (rw [if_pos (by omega)]; first | (exfalso; omega) | (obtain rfl : w = 0 := (by omega); rfl) | (obtain rfl : w = 1 := (by omega); rfl) | (obtain rfl : w = 2 := (by omega); rfl) | (obtain rfl : w = 3 := (by omega); rfl) | (obtain rfl : w = 4 := (by omega); rfl) | (obtain rfl : w = 5 := (by omega); rfl) | (obtain rfl : w = 6 := (by omega); rfl) | (obtain rfl : w = 7 := (by omega); rfl))
    refine x_iload_n 72 C dX12_told_71 rfl rfl rfl ?_
    refine x_iconst 73 C dX12_told_72 rfl ?_
    refine x_icmp_ne 85 76 C dX12_told_73 rfl rfl (by omega) (by omega) (fun h73 => ?_) (fun h73 => ?_)
    · refine x_aload_n 86 C dX12_told_85 rfl rfl rfl ?_
      refine x_getr (j := 9) 89 C rfl (lt79 (by decide)) rfl rfl (by decide) inT12 tb_4_143 rfl dX12_told_86 rfl ?_
      refine x_iload_n 90 C dX12_told_89 rfl rfl rfl ?_
      refine x_iald 91 C rfl (lt79 (by decide)) dX12_told_90 rfl (by omega) (by omega) (fun r90 => ?_)
      refine x_iret C T dX12_told_91 ?_
      refine PE_i ?_ (by omega)
      first | (rw [if_neg (by omega)]; done) | (rw [if_pos (by omega)]; first | (exfalso; omega) | (obtain rfl : w = 0 := (by omega); rfl) | (obtain rfl : w = 1 := (by omega); rfl) | (obtain rfl : w = 2 := (by omega); rfl) | (obtain rfl : w = 3 := (by omega); rfl) | (obtain rfl : w = 4 := (by omega); rfl) | (obtain rfl : w = 5 := (by omega); rfl) | (obtain rfl : w = 6 := (by omega); rfl) | (obtain rfl : w = 7 := (by omega); rfl))
    refine x_aload_n 77 C dX12_told_76 rfl rfl rfl ?_
    refine x_getr (j := 12) 80 C rfl (lt79 (by decide)) rfl rfl (by decide) inT12 tb_4_146 rfl dX12_told_77 rfl ?_
    refine x_iload_n 81 C dX12_told_80 rfl rfl rfl ?_
    refine x_iald 82 C rfl (lt79 (by decide)) dX12_told_81 rfl (by omega) (by omega) (fun r81 => ?_)
    refine x_goto 91 C dX12_told_82 rfl ?_
    refine x_iret C T dX12_told_91 ?_
    refine PE_i ?_ (by omega)
    first | (rw [if_neg (by omega)]; done) | (rw [if_pos (by omega)]; first | (exfalso; omega) | (obtain rfl : w = 0 := (by omega); rfl) | (obtain rfl : w = 1 := (by omega); rfl) | (obtain rfl : w = 2 := (by omega); rfl) | (obtain rfl : w = 3 := (by omega); rfl) | (obtain rfl : w = 4 := (by omega); rfl) | (obtain rfl : w = 5 := (by omega); rfl) | (obtain rfl : w = 6 := (by omega); rfl) | (obtain rfl : w = 7 := (by omega); rfl))
  refine x_iload_n 13 C dX12_told_12 rfl rfl rfl ?_
  refine x_iconst 14 C dX12_told_13 rfl ?_
  refine x_icmp_ge 28 17 C dX12_told_14 rfl rfl (by omega) (by omega) (fun h14 => ?_) (fun h14 => ?_)
  · refine x_aload_n 29 C dX12_told_28 rfl rfl rfl ?_
    refine x_iload_n 30 C dX12_told_29 rfl rfl rfl ?_
    refine x_callVe 33 C dX12_told_30 rfl (c_X12_isOne (by omega) hT) rfl (lt79 (by decide)) rfl tb_5_101 tb_5_103 tb_0_38 tb_1_20 tb_5_104 (na := 1) (by decide +kernel) rfl ⟨by decide, by decide⟩ rfl (Nat.le_of_ble_eq_true rfl) rfl (fun r30 => ?_)
    first
      | refine x_ifb_ne 39 36 C dX12_told_33 rfl rfl (fun h33 => ?_) (fun h33 => ?_)
      | refine x_if_ne 39 36 C dX12_told_33 rfl rfl (by omega) (fun h33 => ?_) (fun h33 => ?_)
    · exact J39 () (by omega)
    refine x_bipush 38 C dX12_told_36 rfl rfl ?_
    refine x_iret C T dX12_told_38 ?_
    refine PE_i ?_ (by omega)
    first | (rw [if_neg (by omega)]; done) | (rw [if_pos (by omega)]; first | (exfalso; omega) | (obtain rfl : w = 0 := (by omega); rfl) | (obtain rfl : w = 1 := (by omega); rfl) | (obtain rfl : w = 2 := (by omega); rfl) | (obtain rfl : w = 3 := (by omega); rfl) | (obtain rfl : w = 4 := (by omega); rfl) | (obtain rfl : w = 5 := (by omega); rfl) | (obtain rfl : w = 6 := (by omega); rfl) | (obtain rfl : w = 7 := (by omega); rfl))
  refine x_aload_n 18 C dX12_told_17 rfl rfl rfl ?_
  refine x_iload_n 19 C dX12_told_18 rfl rfl rfl ?_
  refine x_callVe 22 C dX12_told_19 rfl (c_X12_isThing (by omega) hT) rfl (lt79 (by decide)) rfl tb_5_97 tb_5_99 tb_0_37 tb_1_20 tb_5_100 (na := 1) (by decide +kernel) rfl ⟨by decide, by decide⟩ rfl (Nat.le_of_ble_eq_true rfl) rfl (fun r19 => ?_)
  first
    | refine x_ifb_eq 36 25 C dX12_told_22 rfl rfl (fun h22 => ?_) (fun h22 => ?_)
    | refine x_if_eq 36 25 C dX12_told_22 rfl rfl (by omega) (fun h22 => ?_) (fun h22 => ?_)
  · refine x_bipush 38 C dX12_told_36 rfl rfl ?_
    refine x_iret C T dX12_told_38 ?_
    refine PE_i ?_ (by omega)
    first | (rw [if_neg (by omega)]; done) | (rw [if_pos (by omega)]; first | (exfalso; omega) | (obtain rfl : w = 0 := (by omega); rfl) | (obtain rfl : w = 1 := (by omega); rfl) | (obtain rfl : w = 2 := (by omega); rfl) | (obtain rfl : w = 3 := (by omega); rfl) | (obtain rfl : w = 4 := (by omega); rfl) | (obtain rfl : w = 5 := (by omega); rfl) | (obtain rfl : w = 6 := (by omega); rfl) | (obtain rfl : w = 7 := (by omega); rfl))
  refine x_goto 39 C dX12_told_25 rfl ?_
  exact J39 () (by omega)

set_option maxHeartbeats 4000000 in
set_option maxRecDepth 100000 in
theorem c_X12_whereAt {l : Launch} {G : Gt} {ρ : Nat → Nat} {tc : Nat} {cl : Nat → Nat} {σ : Sig} {t m : Int} (ht : 0 ≤ t ∧ t < 6) (hm : 0 ≤ m ∧ m ≤ 23) (hT : MI σ) : MX l yX12_whereAt cX12_whereAt 4 (some .int) 0 0 G (NN tc) ρ (shp tc cl) [.ref (ρ 51), .int (iZ t), .int (iZ m)] σ (PE σ (whereF (σ 56 t.toNat) (σ 57 t.toNat) (σ 59 t.toNat) m)) := by
  refine MX_of [some (.ref (ρ 51)), some (.int (iZ t)), some (.int (iZ m)), none] (by decide +kernel) rfl rfl (Nat.le_of_ble_eq_true rfl) ?_
  intro K hKl C T hRng
  subst hKl
  have hq := hT.2.2.2.2 t.toNat
  have hd := div_in hm.1 (show 0 < σ 59 t.toNat + 1 by omega)
  have hw := whereF_in (k := σ 56 t.toNat) (h := σ 57 t.toNat) (n := σ 59 t.toNat) (m := m) (by omega) (by omega) (by omega)
  refine x_aload_n 1 C dX12_whereAt_0 rfl rfl rfl ?_
  refine x_getr (j := 9) 4 C rfl (lt79 (by decide)) rfl rfl (by decide) inT12 tb_4_143 rfl dX12_whereAt_1 rfl ?_
  refine x_iload_n 5 C dX12_whereAt_4 rfl rfl rfl ?_
  refine x_iald 6 C rfl (lt79 (by decide)) dX12_whereAt_5 rfl (by omega) (by omega) (fun r5 => ?_)
  refine x_istore_n3 7 C dX12_whereAt_6 rfl rfl ?_
  refine x_iload_n 8 C dX12_whereAt_7 rfl rfl rfl ?_
  refine x_iconst 9 C dX12_whereAt_8 rfl ?_
  refine x_icmp_eq 17 12 C dX12_whereAt_9 rfl rfl (by omega) (by omega) (fun h9 => ?_) (fun h9 => ?_)
  · refine x_iload_n 18 C dX12_whereAt_17 rfl rfl rfl ?_
    refine x_iconst 19 C dX12_whereAt_18 rfl ?_
    refine x_icmp_ne 36 22 C dX12_whereAt_19 rfl rfl (by omega) (by omega) (fun h19 => ?_) (fun h19 => ?_)
    · refine x_aload_n 37 C dX12_whereAt_36 rfl rfl rfl ?_
      refine x_getr (j := 10) 40 C rfl (lt79 (by decide)) rfl rfl (by decide) inT12 tb_4_144 rfl dX12_whereAt_37 rfl ?_
      refine x_iload_n 41 C dX12_whereAt_40 rfl rfl rfl ?_
      refine x_iald 42 C rfl (lt79 (by decide)) dX12_whereAt_41 rfl (by omega) (by omega) (fun r41 => ?_)
      refine x_bipush 44 C dX12_whereAt_42 rfl rfl ?_
      refine x_idiv 45 C dX12_whereAt_44 rfl (by omega) (by omega) ?_
      refine x_bipush 47 C dX12_whereAt_45 rfl rfl ?_
      refine x_imul 48 C dX12_whereAt_47 rfl ?_
      refine x_aload_n 49 C dX12_whereAt_48 rfl rfl rfl ?_
      refine x_getr (j := 10) 52 C rfl (lt79 (by decide)) rfl rfl (by decide) inT12 tb_4_144 rfl dX12_whereAt_49 rfl ?_
      refine x_iload_n 53 C dX12_whereAt_52 rfl rfl rfl ?_
      refine x_iald 54 C rfl (lt79 (by decide)) dX12_whereAt_53 rfl (by omega) (by omega) (fun r53 => ?_)
      refine x_bipush 56 C dX12_whereAt_54 rfl rfl ?_
      refine x_irem 57 C dX12_whereAt_56 rfl (by omega) (by omega) ?_
      refine x_iload_n 58 C dX12_whereAt_57 rfl rfl rfl ?_
      refine x_aload_n 59 C dX12_whereAt_58 rfl rfl rfl ?_
      refine x_getr (j := 12) 62 C rfl (lt79 (by decide)) rfl rfl (by decide) inT12 tb_4_146 rfl dX12_whereAt_59 rfl ?_
      refine x_iload_n 63 C dX12_whereAt_62 rfl rfl rfl ?_
      refine x_iald 64 C rfl (lt79 (by decide)) dX12_whereAt_63 rfl (by omega) (by omega) (fun r63 => ?_)
      refine x_iconst 65 C dX12_whereAt_64 rfl ?_
      refine x_iadd 66 C dX12_whereAt_65 rfl ?_
      refine x_idiv 67 C dX12_whereAt_66 rfl (by omega) (by omega) ?_
      refine x_iadd 68 C dX12_whereAt_67 rfl ?_
      refine x_bipush 70 C dX12_whereAt_68 rfl rfl ?_
      refine x_irem 71 C dX12_whereAt_70 rfl (by omega) (by omega) ?_
      refine x_iadd 72 C dX12_whereAt_71 rfl ?_
      refine x_iret C T dX12_whereAt_72 ?_
      refine PE_i ?_ (by omega)
      unfold whereF
      first | (exfalso; omega) | rw [if_pos (by omega)] | rw [if_neg (by omega)]
    refine x_iload_n 23 C dX12_whereAt_22 rfl rfl rfl ?_
    refine x_iconst 24 C dX12_whereAt_23 rfl ?_
    refine x_irem 25 C dX12_whereAt_24 rfl (by omega) (by omega) ?_
    refine x_iconst 26 C dX12_whereAt_25 rfl ?_
    refine x_icmp_ne 36 29 C dX12_whereAt_26 rfl rfl (by omega) (by omega) (fun h26 => ?_) (fun h26 => ?_)
    rotate_left
    · refine x_aload_n 30 C dX12_whereAt_29 rfl rfl rfl ?_
      refine x_getr (j := 10) 33 C rfl (lt79 (by decide)) rfl rfl (by decide) inT12 tb_4_144 rfl dX12_whereAt_30 rfl ?_
      refine x_iload_n 34 C dX12_whereAt_33 rfl rfl rfl ?_
      refine x_iald 35 C rfl (lt79 (by decide)) dX12_whereAt_34 rfl (by omega) (by omega) (fun r34 => ?_)
      refine x_iret C T dX12_whereAt_35 ?_
      refine PE_i ?_ (by omega)
      unfold whereF
      first | (exfalso; omega) | rw [if_pos (by omega)] | rw [if_neg (by omega)]
    refine x_aload_n 37 C dX12_whereAt_36 rfl rfl rfl ?_
    refine x_getr (j := 10) 40 C rfl (lt79 (by decide)) rfl rfl (by decide) inT12 tb_4_144 rfl dX12_whereAt_37 rfl ?_
    refine x_iload_n 41 C dX12_whereAt_40 rfl rfl rfl ?_
    refine x_iald 42 C rfl (lt79 (by decide)) dX12_whereAt_41 rfl (by omega) (by omega) (fun r41 => ?_)
    refine x_bipush 44 C dX12_whereAt_42 rfl rfl ?_
    refine x_idiv 45 C dX12_whereAt_44 rfl (by omega) (by omega) ?_
    refine x_bipush 47 C dX12_whereAt_45 rfl rfl ?_
    refine x_imul 48 C dX12_whereAt_47 rfl ?_
    refine x_aload_n 49 C dX12_whereAt_48 rfl rfl rfl ?_
    refine x_getr (j := 10) 52 C rfl (lt79 (by decide)) rfl rfl (by decide) inT12 tb_4_144 rfl dX12_whereAt_49 rfl ?_
    refine x_iload_n 53 C dX12_whereAt_52 rfl rfl rfl ?_
    refine x_iald 54 C rfl (lt79 (by decide)) dX12_whereAt_53 rfl (by omega) (by omega) (fun r53 => ?_)
    refine x_bipush 56 C dX12_whereAt_54 rfl rfl ?_
    refine x_irem 57 C dX12_whereAt_56 rfl (by omega) (by omega) ?_
    refine x_iload_n 58 C dX12_whereAt_57 rfl rfl rfl ?_
    refine x_aload_n 59 C dX12_whereAt_58 rfl rfl rfl ?_
    refine x_getr (j := 12) 62 C rfl (lt79 (by decide)) rfl rfl (by decide) inT12 tb_4_146 rfl dX12_whereAt_59 rfl ?_
    refine x_iload_n 63 C dX12_whereAt_62 rfl rfl rfl ?_
    refine x_iald 64 C rfl (lt79 (by decide)) dX12_whereAt_63 rfl (by omega) (by omega) (fun r63 => ?_)
    refine x_iconst 65 C dX12_whereAt_64 rfl ?_
    refine x_iadd 66 C dX12_whereAt_65 rfl ?_
    refine x_idiv 67 C dX12_whereAt_66 rfl (by omega) (by omega) ?_
    refine x_iadd 68 C dX12_whereAt_67 rfl ?_
    refine x_bipush 70 C dX12_whereAt_68 rfl rfl ?_
    refine x_irem 71 C dX12_whereAt_70 rfl (by omega) (by omega) ?_
    refine x_iadd 72 C dX12_whereAt_71 rfl ?_
    refine x_iret C T dX12_whereAt_72 ?_
    refine PE_i ?_ (by omega)
    unfold whereF
    first | (exfalso; omega) | rw [if_pos (by omega)] | rw [if_neg (by omega)]
  refine x_iload_n 13 C dX12_whereAt_12 rfl rfl rfl ?_
  refine x_iconst 14 C dX12_whereAt_13 rfl ?_
  refine x_icmp_ne 29 17 C dX12_whereAt_14 rfl rfl (by omega) (by omega) (fun h14 => ?_) (fun h14 => ?_)
  · refine x_aload_n 30 C dX12_whereAt_29 rfl rfl rfl ?_
    refine x_getr (j := 10) 33 C rfl (lt79 (by decide)) rfl rfl (by decide) inT12 tb_4_144 rfl dX12_whereAt_30 rfl ?_
    refine x_iload_n 34 C dX12_whereAt_33 rfl rfl rfl ?_
    refine x_iald 35 C rfl (lt79 (by decide)) dX12_whereAt_34 rfl (by omega) (by omega) (fun r34 => ?_)
    refine x_iret C T dX12_whereAt_35 ?_
    refine PE_i ?_ (by omega)
    unfold whereF
    first | (exfalso; omega) | rw [if_pos (by omega)] | rw [if_neg (by omega)]
  refine x_iload_n 18 C dX12_whereAt_17 rfl rfl rfl ?_
  refine x_iconst 19 C dX12_whereAt_18 rfl ?_
  refine x_icmp_ne 36 22 C dX12_whereAt_19 rfl rfl (by omega) (by omega) (fun h19 => ?_) (fun h19 => ?_)
  · refine x_aload_n 37 C dX12_whereAt_36 rfl rfl rfl ?_
    refine x_getr (j := 10) 40 C rfl (lt79 (by decide)) rfl rfl (by decide) inT12 tb_4_144 rfl dX12_whereAt_37 rfl ?_
    refine x_iload_n 41 C dX12_whereAt_40 rfl rfl rfl ?_
    refine x_iald 42 C rfl (lt79 (by decide)) dX12_whereAt_41 rfl (by omega) (by omega) (fun r41 => ?_)
    refine x_bipush 44 C dX12_whereAt_42 rfl rfl ?_
    refine x_idiv 45 C dX12_whereAt_44 rfl (by omega) (by omega) ?_
    refine x_bipush 47 C dX12_whereAt_45 rfl rfl ?_
    refine x_imul 48 C dX12_whereAt_47 rfl ?_
    refine x_aload_n 49 C dX12_whereAt_48 rfl rfl rfl ?_
    refine x_getr (j := 10) 52 C rfl (lt79 (by decide)) rfl rfl (by decide) inT12 tb_4_144 rfl dX12_whereAt_49 rfl ?_
    refine x_iload_n 53 C dX12_whereAt_52 rfl rfl rfl ?_
    refine x_iald 54 C rfl (lt79 (by decide)) dX12_whereAt_53 rfl (by omega) (by omega) (fun r53 => ?_)
    refine x_bipush 56 C dX12_whereAt_54 rfl rfl ?_
    refine x_irem 57 C dX12_whereAt_56 rfl (by omega) (by omega) ?_
    refine x_iload_n 58 C dX12_whereAt_57 rfl rfl rfl ?_
    refine x_aload_n 59 C dX12_whereAt_58 rfl rfl rfl ?_
    refine x_getr (j := 12) 62 C rfl (lt79 (by decide)) rfl rfl (by decide) inT12 tb_4_146 rfl dX12_whereAt_59 rfl ?_
    refine x_iload_n 63 C dX12_whereAt_62 rfl rfl rfl ?_
    refine x_iald 64 C rfl (lt79 (by decide)) dX12_whereAt_63 rfl (by omega) (by omega) (fun r63 => ?_)
    refine x_iconst 65 C dX12_whereAt_64 rfl ?_
    refine x_iadd 66 C dX12_whereAt_65 rfl ?_
    refine x_idiv 67 C dX12_whereAt_66 rfl (by omega) (by omega) ?_
    refine x_iadd 68 C dX12_whereAt_67 rfl ?_
    refine x_bipush 70 C dX12_whereAt_68 rfl rfl ?_
    refine x_irem 71 C dX12_whereAt_70 rfl (by omega) (by omega) ?_
    refine x_iadd 72 C dX12_whereAt_71 rfl ?_
    refine x_iret C T dX12_whereAt_72 ?_
    refine PE_i ?_ (by omega)
    unfold whereF
    first | (exfalso; omega) | rw [if_pos (by omega)] | rw [if_neg (by omega)]
  refine x_iload_n 23 C dX12_whereAt_22 rfl rfl rfl ?_
  refine x_iconst 24 C dX12_whereAt_23 rfl ?_
  refine x_irem 25 C dX12_whereAt_24 rfl (by omega) (by omega) ?_
  refine x_iconst 26 C dX12_whereAt_25 rfl ?_
  refine x_icmp_ne 36 29 C dX12_whereAt_26 rfl rfl (by omega) (by omega) (fun h26 => ?_) (fun h26 => ?_)
  rotate_left
  · refine x_aload_n 30 C dX12_whereAt_29 rfl rfl rfl ?_
    refine x_getr (j := 10) 33 C rfl (lt79 (by decide)) rfl rfl (by decide) inT12 tb_4_144 rfl dX12_whereAt_30 rfl ?_
    refine x_iload_n 34 C dX12_whereAt_33 rfl rfl rfl ?_
    refine x_iald 35 C rfl (lt79 (by decide)) dX12_whereAt_34 rfl (by omega) (by omega) (fun r34 => ?_)
    refine x_iret C T dX12_whereAt_35 ?_
    refine PE_i ?_ (by omega)
    unfold whereF
    first | (exfalso; omega) | rw [if_pos (by omega)] | rw [if_neg (by omega)]
  refine x_aload_n 37 C dX12_whereAt_36 rfl rfl rfl ?_
  refine x_getr (j := 10) 40 C rfl (lt79 (by decide)) rfl rfl (by decide) inT12 tb_4_144 rfl dX12_whereAt_37 rfl ?_
  refine x_iload_n 41 C dX12_whereAt_40 rfl rfl rfl ?_
  refine x_iald 42 C rfl (lt79 (by decide)) dX12_whereAt_41 rfl (by omega) (by omega) (fun r41 => ?_)
  refine x_bipush 44 C dX12_whereAt_42 rfl rfl ?_
  refine x_idiv 45 C dX12_whereAt_44 rfl (by omega) (by omega) ?_
  refine x_bipush 47 C dX12_whereAt_45 rfl rfl ?_
  refine x_imul 48 C dX12_whereAt_47 rfl ?_
  refine x_aload_n 49 C dX12_whereAt_48 rfl rfl rfl ?_
  refine x_getr (j := 10) 52 C rfl (lt79 (by decide)) rfl rfl (by decide) inT12 tb_4_144 rfl dX12_whereAt_49 rfl ?_
  refine x_iload_n 53 C dX12_whereAt_52 rfl rfl rfl ?_
  refine x_iald 54 C rfl (lt79 (by decide)) dX12_whereAt_53 rfl (by omega) (by omega) (fun r53 => ?_)
  refine x_bipush 56 C dX12_whereAt_54 rfl rfl ?_
  refine x_irem 57 C dX12_whereAt_56 rfl (by omega) (by omega) ?_
  refine x_iload_n 58 C dX12_whereAt_57 rfl rfl rfl ?_
  refine x_aload_n 59 C dX12_whereAt_58 rfl rfl rfl ?_
  refine x_getr (j := 12) 62 C rfl (lt79 (by decide)) rfl rfl (by decide) inT12 tb_4_146 rfl dX12_whereAt_59 rfl ?_
  refine x_iload_n 63 C dX12_whereAt_62 rfl rfl rfl ?_
  refine x_iald 64 C rfl (lt79 (by decide)) dX12_whereAt_63 rfl (by omega) (by omega) (fun r63 => ?_)
  refine x_iconst 65 C dX12_whereAt_64 rfl ?_
  refine x_iadd 66 C dX12_whereAt_65 rfl ?_
  refine x_idiv 67 C dX12_whereAt_66 rfl (by omega) (by omega) ?_
  refine x_iadd 68 C dX12_whereAt_67 rfl ?_
  refine x_bipush 70 C dX12_whereAt_68 rfl rfl ?_
  refine x_irem 71 C dX12_whereAt_70 rfl (by omega) (by omega) ?_
  refine x_iadd 72 C dX12_whereAt_71 rfl ?_
  refine x_iret C T dX12_whereAt_72 ?_
  refine PE_i ?_ (by omega)
  unfold whereF
  first | (exfalso; omega) | rw [if_pos (by omega)] | rw [if_neg (by omega)]

set_option maxHeartbeats 4000000 in
set_option maxRecDepth 100000 in
theorem c_X12_where {l : Launch} {G : Gt} {ρ : Nat → Nat} {tc : Nat} {cl : Nat → Nat} {σ : Sig} {t m : Int} (ht : -2147483648 ≤ t ∧ t ≤ 2147483647) (hm : -2147483648 ≤ m ∧ m ≤ 2147483647) (hT : MI σ) : MX l yX12_where cX12_where 3 (some .int) 2 46 G (NN tc) ρ (shp tc cl) [.ref (ρ 51), .int (iZ t), .int (iZ m)] σ (PE σ (if 0 ≤ t ∧ t < σ 51 13 ∧ 0 ≤ m ∧ m < 24 then whereF (σ 56 t.toNat) (σ 57 t.toNat) (σ 59 t.toNat) m else -2)) := by
  refine MX_of [some (.ref (ρ 51)), some (.int (iZ t)), some (.int (iZ m))] (by decide +kernel) rfl rfl (Nat.le_of_ble_eq_true rfl) ?_
  intro K hKl C T hRng
  subst hKl
  have h3 := hT.2.2.1
  refine x_aload_n 1 C dX12_where_0 rfl rfl rfl ?_
  refine x_iload_n 2 C dX12_where_1 rfl rfl rfl ?_
  refine x_callVe 5 C dX12_where_2 rfl (c_X12_isThing (by omega) hT) rfl (lt79 (by decide)) rfl tb_5_97 tb_5_99 tb_0_37 tb_1_20 tb_5_100 (na := 1) (by decide +kernel) rfl ⟨by decide, by decide⟩ rfl (Nat.le_of_ble_eq_true rfl) rfl (fun r2 => ?_)
  first
    | refine x_ifb_eq 29 8 C dX12_where_5 rfl rfl (fun h5 => ?_) (fun h5 => ?_)
    | refine x_if_eq 29 8 C dX12_where_5 rfl rfl (by omega) (fun h5 => ?_) (fun h5 => ?_)
  · refine x_bipush 31 C dX12_where_29 rfl rfl ?_
    refine x_iret C T dX12_where_31 ?_
    exact PE_i (by first | rw [if_pos (by omega)] | rw [if_neg (by omega)]) (by omega)
  refine x_iload_n 9 C dX12_where_8 rfl rfl rfl ?_
  refine x_i2l 10 C dX12_where_9 rfl (by omega) ?_
  refine x_lconst 11 C dX12_where_10 rfl 0 rfl ?_
  refine x_ldc2 (z := 23) 14 C tb_5_106 dX12_where_11 rfl ?_
  refine x_callSe 17 C dX12_where_14 rfl (c_X12_in (by omega) (by omega) (by omega)) tb_5_69 tb_5_70 tb_1_20 tb_5_71 (na := 3) (by decide +kernel) rfl ⟨by decide, by decide⟩ rfl (Nat.le_of_ble_eq_true rfl) rfl (fun r14 => ?_)
  first
    | refine x_ifb_eq 29 20 C dX12_where_17 rfl rfl (fun h17 => ?_) (fun h17 => ?_)
    | refine x_if_eq 29 20 C dX12_where_17 rfl rfl (by omega) (fun h17 => ?_) (fun h17 => ?_)
  · refine x_bipush 31 C dX12_where_29 rfl rfl ?_
    refine x_iret C T dX12_where_31 ?_
    exact PE_i (by first | rw [if_pos (by omega)] | rw [if_neg (by omega)]) (by omega)
  refine x_aload_n 21 C dX12_where_20 rfl rfl rfl ?_
  refine x_iload_n 22 C dX12_where_21 rfl rfl rfl ?_
  refine x_iload_n 23 C dX12_where_22 rfl rfl rfl ?_
  refine x_callVe 26 C dX12_where_23 rfl (c_X12_whereAt (by omega) (by omega) hT) rfl (lt79 (by decide)) rfl tb_5_116 tb_5_118 tb_0_39 tb_1_20 tb_5_119 (na := 2) (by decide +kernel) rfl ⟨by decide, by decide⟩ rfl (Nat.le_of_ble_eq_true rfl) rfl (fun r23 => ?_)
  refine x_goto 31 C dX12_where_26 rfl ?_
  refine x_iret C T dX12_where_31 ?_
  exact PE_i (by first | rw [if_pos (by omega)] | rw [if_neg (by omega)]) (by omega)

theorem showsF_iff {k n f far : Int} : showsF k n f far = true ↔ (k = 5 ∧ f < 9) ∨ (k = 2 ∧ far = 1) ∨ (k = 4 ∧ (far = n ∨ far = 1)) ∨ (k = 3 ∧ far ≠ 1 ∧ far ≤ 9 - f) ∨ (k ≠ 5 ∧ k ≠ 2 ∧ k ≠ 4 ∧ k ≠ 3 ∧ far ≤ 9 - f) := by
  unfold showsF
  by_cases h5 : k = 5
  · rw [if_pos h5, decide_eq_true_eq]; omega
  · rw [if_neg h5]
    by_cases h2 : k = 2
    · rw [if_pos h2, decide_eq_true_eq]; omega
    · rw [if_neg h2]
      by_cases h4 : k = 4
      · rw [if_pos h4, decide_eq_true_eq]; omega
      · rw [if_neg h4]
        by_cases h3 : k = 3
        · rw [if_pos h3, decide_eq_true_eq]; omega
        · rw [if_neg h3, decide_eq_true_eq]; omega
set_option maxHeartbeats 4000000 in
set_option maxRecDepth 100000 in
theorem c_X12_shows {l : Launch} {G : Gt} {ρ : Nat → Nat} {tc : Nat} {cl : Nat → Nat} {σ : Sig} {t f : Int} (ht : 0 ≤ t ∧ t < 6) (hf : 0 ≤ f ∧ f ≤ 9) (hT : MI σ) : MX l yX12_shows cX12_shows 4 (some .boolean) 0 0 G (NN tc) ρ (shp tc cl) [.ref (ρ 51), .int (iZ t), .int (iZ f)] σ (PE σ (b2 (showsF (σ 56 t.toNat) (σ 59 t.toNat) (σ 51 8) f = true))) := by
  refine MX_of [some (.ref (ρ 51)), some (.int (iZ t)), some (.int (iZ f)), none] (by decide +kernel) rfl rfl (Nat.le_of_ble_eq_true rfl) ?_
  intro K hKl C T hRng
  subst hKl
  have hq := hT.2.2.2.2 t.toNat
  have hg := hT.1
  refine x_aload_n 1 C dX12_shows_0 rfl rfl rfl ?_
  refine x_getr (j := 9) 4 C rfl (lt79 (by decide)) rfl rfl (by decide) inT12 tb_4_143 rfl dX12_shows_1 rfl ?_
  refine x_iload_n 5 C dX12_shows_4 rfl rfl rfl ?_
  refine x_iald 6 C rfl (lt79 (by decide)) dX12_shows_5 rfl (by omega) (by omega) (fun r5 => ?_)
  refine x_istore_n3 7 C dX12_shows_6 rfl rfl ?_
  refine x_iload_n 8 C dX12_shows_7 rfl rfl rfl ?_
  refine x_iconst 9 C dX12_shows_8 rfl ?_
  refine x_icmp_ne 27 12 C dX12_shows_9 rfl rfl (by omega) (by omega) (fun h9 => ?_) (fun h9 => ?_)
  · refine x_iload_n 28 C dX12_shows_27 rfl rfl rfl ?_
    refine x_iconst 29 C dX12_shows_28 rfl ?_
    refine x_icmp_eq 37 32 C dX12_shows_29 rfl rfl (by omega) (by omega) (fun h29 => ?_) (fun h29 => ?_)
    · refine x_iload_n 38 C dX12_shows_37 rfl rfl rfl ?_
      refine x_iconst 39 C dX12_shows_38 rfl ?_
      refine x_icmp_eq 57 42 C dX12_shows_39 rfl rfl (by omega) (by omega) (fun h39 => ?_) (fun h39 => ?_)
      · refine x_iconst 58 C dX12_shows_57 rfl ?_
        refine x_goto 62 C dX12_shows_58 rfl ?_
        refine x_zret C T dX12_shows_62 (by omega) ?_
        refine PE_i ?_ (by omega)
        rw [b2_congr showsF_iff]
        unfold b2
        split <;> omega
      refine x_iload_n 43 C dX12_shows_42 rfl rfl rfl ?_
      refine x_iconst 44 C dX12_shows_43 rfl ?_
      refine x_icmp_ne 61 47 C dX12_shows_44 rfl rfl (by omega) (by omega) (fun h44 => ?_) (fun h44 => ?_)
      · refine x_iconst 62 C dX12_shows_61 rfl ?_
        refine x_zret C T dX12_shows_62 (by omega) ?_
        refine PE_i ?_ (by omega)
        rw [b2_congr showsF_iff]
        unfold b2
        split <;> omega
      refine x_iload_n 48 C dX12_shows_47 rfl rfl rfl ?_
      refine x_aload_n 49 C dX12_shows_48 rfl rfl rfl ?_
      refine x_getr (j := 12) 52 C rfl (lt79 (by decide)) rfl rfl (by decide) inT12 tb_4_146 rfl dX12_shows_49 rfl ?_
      refine x_iload_n 53 C dX12_shows_52 rfl rfl rfl ?_
      refine x_iald 54 C rfl (lt79 (by decide)) dX12_shows_53 rfl (by omega) (by omega) (fun r53 => ?_)
      refine x_icmp_ne 61 57 C dX12_shows_54 rfl rfl (by omega) (by omega) (fun h54 => ?_) (fun h54 => ?_)
      · refine x_iconst 62 C dX12_shows_61 rfl ?_
        refine x_zret C T dX12_shows_62 (by omega) ?_
        refine PE_i ?_ (by omega)
        rw [b2_congr showsF_iff]
        unfold b2
        split <;> omega
      refine x_iconst 58 C dX12_shows_57 rfl ?_
      refine x_goto 62 C dX12_shows_58 rfl ?_
      refine x_zret C T dX12_shows_62 (by omega) ?_
      refine PE_i ?_ (by omega)
      rw [b2_congr showsF_iff]
      unfold b2
      split <;> omega
    refine x_iload_n 33 C dX12_shows_32 rfl rfl rfl ?_
    refine x_iconst 34 C dX12_shows_33 rfl ?_
    refine x_icmp_ne 63 37 C dX12_shows_34 rfl rfl (by omega) (by omega) (fun h34 => ?_) (fun h34 => ?_)
    · refine x_iload_n 64 C dX12_shows_63 rfl rfl rfl ?_
      refine x_bipush 66 C dX12_shows_64 rfl rfl ?_
      refine x_aload_n 67 C dX12_shows_66 rfl rfl rfl ?_
      refine x_geti (j := 8) 70 C rfl (lt79 (by decide)) rfl rfl (by decide) inT12 tb_4_142 rfl dX12_shows_67 rfl (fun r67 => ?_)
      refine x_isub 71 C dX12_shows_70 rfl ?_
      refine x_icmp_gt 88 74 C dX12_shows_71 rfl rfl (by omega) (by omega) (fun h71 => ?_) (fun h71 => ?_)
      · refine x_iconst 89 C dX12_shows_88 rfl ?_
        refine x_zret C T dX12_shows_89 (by omega) ?_
        refine PE_i ?_ (by omega)
        rw [b2_congr showsF_iff]
        unfold b2
        split <;> omega
      refine x_iload_n 75 C dX12_shows_74 rfl rfl rfl ?_
      refine x_iconst 76 C dX12_shows_75 rfl ?_
      refine x_icmp_ne 84 79 C dX12_shows_76 rfl rfl (by omega) (by omega) (fun h76 => ?_) (fun h76 => ?_)
      · refine x_iconst 85 C dX12_shows_84 rfl ?_
        refine x_goto 89 C dX12_shows_85 rfl ?_
        refine x_zret C T dX12_shows_89 (by omega) ?_
        refine PE_i ?_ (by omega)
        rw [b2_congr showsF_iff]
        unfold b2
        split <;> omega
      refine x_iload_n 80 C dX12_shows_79 rfl rfl rfl ?_
      refine x_iconst 81 C dX12_shows_80 rfl ?_
      refine x_icmp_eq 88 84 C dX12_shows_81 rfl rfl (by omega) (by omega) (fun h81 => ?_) (fun h81 => ?_)
      · refine x_iconst 89 C dX12_shows_88 rfl ?_
        refine x_zret C T dX12_shows_89 (by omega) ?_
        refine PE_i ?_ (by omega)
        rw [b2_congr showsF_iff]
        unfold b2
        split <;> omega
      refine x_iconst 85 C dX12_shows_84 rfl ?_
      refine x_goto 89 C dX12_shows_85 rfl ?_
      refine x_zret C T dX12_shows_89 (by omega) ?_
      refine PE_i ?_ (by omega)
      rw [b2_congr showsF_iff]
      unfold b2
      split <;> omega
    refine x_iload_n 38 C dX12_shows_37 rfl rfl rfl ?_
    refine x_iconst 39 C dX12_shows_38 rfl ?_
    refine x_icmp_eq 57 42 C dX12_shows_39 rfl rfl (by omega) (by omega) (fun h39 => ?_) (fun h39 => ?_)
    · refine x_iconst 58 C dX12_shows_57 rfl ?_
      refine x_goto 62 C dX12_shows_58 rfl ?_
      refine x_zret C T dX12_shows_62 (by omega) ?_
      refine PE_i ?_ (by omega)
      rw [b2_congr showsF_iff]
      unfold b2
      split <;> omega
    refine x_iload_n 43 C dX12_shows_42 rfl rfl rfl ?_
    refine x_iconst 44 C dX12_shows_43 rfl ?_
    refine x_icmp_ne 61 47 C dX12_shows_44 rfl rfl (by omega) (by omega) (fun h44 => ?_) (fun h44 => ?_)
    · refine x_iconst 62 C dX12_shows_61 rfl ?_
      refine x_zret C T dX12_shows_62 (by omega) ?_
      refine PE_i ?_ (by omega)
      rw [b2_congr showsF_iff]
      unfold b2
      split <;> omega
    refine x_iload_n 48 C dX12_shows_47 rfl rfl rfl ?_
    refine x_aload_n 49 C dX12_shows_48 rfl rfl rfl ?_
    refine x_getr (j := 12) 52 C rfl (lt79 (by decide)) rfl rfl (by decide) inT12 tb_4_146 rfl dX12_shows_49 rfl ?_
    refine x_iload_n 53 C dX12_shows_52 rfl rfl rfl ?_
    refine x_iald 54 C rfl (lt79 (by decide)) dX12_shows_53 rfl (by omega) (by omega) (fun r53 => ?_)
    refine x_icmp_ne 61 57 C dX12_shows_54 rfl rfl (by omega) (by omega) (fun h54 => ?_) (fun h54 => ?_)
    · refine x_iconst 62 C dX12_shows_61 rfl ?_
      refine x_zret C T dX12_shows_62 (by omega) ?_
      refine PE_i ?_ (by omega)
      rw [b2_congr showsF_iff]
      unfold b2
      split <;> omega
    refine x_iconst 58 C dX12_shows_57 rfl ?_
    refine x_goto 62 C dX12_shows_58 rfl ?_
    refine x_zret C T dX12_shows_62 (by omega) ?_
    refine PE_i ?_ (by omega)
    rw [b2_congr showsF_iff]
    unfold b2
    split <;> omega
  refine x_aload_n 13 C dX12_shows_12 rfl rfl rfl ?_
  refine x_geti (j := 8) 16 C rfl (lt79 (by decide)) rfl rfl (by decide) inT12 tb_4_142 rfl dX12_shows_13 rfl (fun r13 => ?_)
  refine x_bipush 18 C dX12_shows_16 rfl rfl ?_
  refine x_icmp_ge 25 21 C dX12_shows_18 rfl rfl (by omega) (by omega) (fun h18 => ?_) (fun h18 => ?_)
  · refine x_iconst 26 C dX12_shows_25 rfl ?_
    refine x_zret C T dX12_shows_26 (by omega) ?_
    refine PE_i ?_ (by omega)
    rw [b2_congr showsF_iff]
    unfold b2
    split <;> omega
  refine x_iconst 22 C dX12_shows_21 rfl ?_
  refine x_goto 26 C dX12_shows_22 rfl ?_
  refine x_zret C T dX12_shows_26 (by omega) ?_
  refine PE_i ?_ (by omega)
  rw [b2_congr showsF_iff]
  unfold b2
  split <;> omega
