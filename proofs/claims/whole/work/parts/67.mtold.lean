/-! told otherwise, by the model -/
def refM (σ : Sig) (i : Nat) : Int := if σ 75 i = 0 then -11 else if σ 77 i = σ 51 18 then 0 else -2
theorem refM_in (σ : Sig) (i : Nat) : refM σ i = 0 ∨ refM σ i = -11 ∨ refM σ i = -2 := by unfold refM; (repeat' split) <;> omega
def HW1 (s : Nat) (a b : Nat) : Prop := a = 61 ∧ b = s
def HW2 (s : Nat) (a b : Nat) : Prop := a = 62 ∧ b = s
theorem shl0 : ∀ m : Nat, m < 24 → (iZ 0 <<< (iZ (m : Int) &&& 31)) = iZ 0 := by decide +kernel
theorem shl_d {d : Int} {m : Nat} (hd : d = 0 ∨ d = 1) (hm : m < 24) : (iZ d <<< (iZ (m : Int) &&& 31)) = iZ (d * ((2 ^ m : Nat) : Int)) := by
  rcases hd with rfl | rfl
  · rw [Int.zero_mul]; exact shl0 m hm
  · rw [Int.one_mul]; exact shl24 m hm
theorem or_d {d : Int} {a b m : Nat} (hd : d = 0 ∨ d = 1) (h : a < 2 ^ m) (hm : m < 24) (hb : (b : Int) = a + d * ((2 ^ m : Nat) : Int)) : iZ (a : Int) ||| iZ (d * ((2 ^ m : Nat) : Int)) = iZ (b : Int) := by
  rcases hd with rfl | rfl
  · rw [Int.zero_mul] at hb ⊢
    rw [hb, Int.add_zero]
    exact Int32.or_zero
  · rw [Int.one_mul] at hb ⊢
    rw [hb, or_add h hm, Int.natCast_add]
set_option maxHeartbeats 4000000 in
set_option maxRecDepth 100000 in
theorem c_X12_hadBad {l : Launch} {G : Gt} {ρ : Nat → Nat} {tc : Nat} {cl : Nat → Nat} {σ : Sig} {v : Int} (hv : -2147483648 ≤ v ∧ v ≤ 2147483647) (hT : MI σ) : MX l yX12_hadBad cX12_hadBad 2 (some .int) 2 45 G (NN tc) ρ (shp tc cl) [.ref (ρ 51), .int (iZ v)] σ (PE σ (if 0 ≤ v ∧ v < 4 then refM σ v.toNat else -2)) := by
  refine MX_of [some (.ref (ρ 51)), some (.int (iZ v))] (by decide +kernel) rfl rfl (Nat.le_of_ble_eq_true rfl) ?_
  intro K hKl C T hRng
  subst hKl
  refine x_iload_n 1 C dX12_hadBad_0 rfl rfl rfl ?_
  refine x_callSe 4 C dX12_hadBad_1 rfl (c_X12_isSheet (by omega)) tb_6_59 tb_6_60 tb_1_20 tb_6_61 (na := 1) (by decide +kernel) rfl ⟨by decide, by decide⟩ rfl (Nat.le_of_ble_eq_true rfl) rfl (fun r1 => ?_)
  first
    | refine x_ifb_ne 10 7 C dX12_hadBad_4 rfl rfl (fun h4 => ?_) (fun h4 => ?_)
    | refine x_if_ne 10 7 C dX12_hadBad_4 rfl rfl (by omega) (fun h4 => ?_) (fun h4 => ?_)
  rotate_left
  · refine x_bipush 9 C dX12_hadBad_7 rfl rfl ?_
    refine x_iret C T dX12_hadBad_9 ?_
    refine PE_i ?_ (by omega)
    first
      | (rw [if_neg (by omega)]; done)
      | (rw [if_pos (by omega)]; unfold refM; first | rw [if_pos (by omega)] | rw [if_neg (by omega), if_pos (by omega)] | rw [if_neg (by omega), if_neg (by omega)])
  refine x_aload_n 11 C dX12_hadBad_10 rfl rfl rfl ?_
  refine x_getr (j := 52) 14 C rfl (lt79 (by decide)) rfl rfl (by decide) inT12 tb_4_186 rfl dX12_hadBad_11 rfl ?_
  refine x_iload_n 15 C dX12_hadBad_14 rfl rfl rfl ?_
  refine x_zald 16 C rfl (lt79 (by decide)) dX12_hadBad_15 rfl (by omega) (by omega) (fun r15 => ?_)
  refine x_if_ne 22 19 C dX12_hadBad_16 rfl rfl (by omega) (fun h16 => ?_) (fun h16 => ?_)
  rotate_left
  · refine x_bipush 21 C dX12_hadBad_19 rfl rfl ?_
    refine x_iret C T dX12_hadBad_21 ?_
    refine PE_i ?_ (by omega)
    first
      | (rw [if_neg (by omega)]; done)
      | (rw [if_pos (by omega)]; unfold refM; first | rw [if_pos (by omega)] | rw [if_neg (by omega), if_pos (by omega)] | rw [if_neg (by omega), if_neg (by omega)])
  refine x_aload_n 23 C dX12_hadBad_22 rfl rfl rfl ?_
  refine x_getr (j := 54) 26 C rfl (lt79 (by decide)) rfl rfl (by decide) inT12 tb_4_188 rfl dX12_hadBad_23 rfl ?_
  refine x_iload_n 27 C dX12_hadBad_26 rfl rfl rfl ?_
  refine x_iald 28 C rfl (lt79 (by decide)) dX12_hadBad_27 rfl (by omega) (by omega) (fun r27 => ?_)
  refine x_aload_n 29 C dX12_hadBad_28 rfl rfl rfl ?_
  refine x_geti (j := 18) 32 C rfl (lt79 (by decide)) rfl rfl (by decide) inT12 tb_4_152 rfl dX12_hadBad_29 rfl (fun r29 => ?_)
  refine x_icmp_ne 39 35 C dX12_hadBad_32 rfl rfl (by omega) (by omega) (fun h32 => ?_) (fun h32 => ?_)
  · refine x_bipush 41 C dX12_hadBad_39 rfl rfl ?_
    refine x_iret C T dX12_hadBad_41 ?_
    refine PE_i ?_ (by omega)
    first
      | (rw [if_neg (by omega)]; done)
      | (rw [if_pos (by omega)]; unfold refM; first | rw [if_pos (by omega)] | rw [if_neg (by omega), if_pos (by omega)] | rw [if_neg (by omega), if_neg (by omega)])
  refine x_iconst 36 C dX12_hadBad_35 rfl ?_
  refine x_goto 41 C dX12_hadBad_36 rfl ?_
  refine x_iret C T dX12_hadBad_41 ?_
  refine PE_i ?_ (by omega)
  first
    | (rw [if_neg (by omega)]; done)
    | (rw [if_pos (by omega)]; unfold refM; first | rw [if_pos (by omega)] | rw [if_neg (by omega), if_pos (by omega)] | rw [if_neg (by omega), if_neg (by omega)])

set_option maxHeartbeats 4000000 in
set_option maxRecDepth 100000 in
theorem c_X12_unlike {l : Launch} {G : Gt} {ρ : Nat → Nat} {tc : Nat} {cl : Nat → Nat} {σ : Sig} {X : Nat → RuT} {N i : Nat} (hW : MW X N σ) (hi : i < 4) : MX l yX12_unlike cX12_unlike 3 (some .int) 56 1353 G (NN tc) ρ (shp tc cl) [.ref (ρ 51), .int (iZ (i : Int))] σ (PI (fun z σ' => KM σ σ' ∧ KV X N σ' ∧ z = othF X (cM σ) (fun q => σ 78 (40 * i + q)))) := by
  refine MX_of [some (.ref (ρ 51)), some (.int (iZ (i : Int))), none] (by decide +kernel) rfl rfl (Nat.le_of_ble_eq_true rfl) ?_
  intro K hKl C T hRng
  subst hKl
  have hT := hW.1
  have h8 := hT.2.2.2.1
  have hW_σ := hW
  have f18_σ : σ 51 18 = σ 51 18 := rfl
  have hu_σ : cM σ = cM σ := rfl
  have hTc := TI_cM hT
  
  refine x_aload_n 1 C dX12_unlike_0 rfl rfl rfl ?_
  refine x_callVv 4 C dX12_unlike_1 rfl (c_X12_morning (X := X) (N := N) hW_σ) rfl (lt79 (by decide)) rfl tb_5_234 tb_5_236 tb_0_60 tb_1_20 tb_5_237 (na := 0) (by decide +kernel) rfl ⟨by decide, by decide⟩ rfl (Nat.le_of_ble_eq_true rfl) rfl (fun s1 hq1 hR1 => ?_)
  obtain ⟨hM_1, hV_1, hL_1, hD_1⟩ := hq1
  have hW_1 := KM_MW hM_1 hV_1 hW_σ
  have e18_1 : s1 51 18 = σ 51 18 := (hM_1.2 18 (by omega)).trans f18_σ
  have e13_1 : s1 51 13 = σ 51 13 := hM_1.2 13 (by omega)
  have e62_1 : s1 62 = σ 62 := KM_row hM_1 (by omega) (by omega) (by omega) (by omega)
  refine x_iconst 5 C dX12_unlike_4 rfl ?_
  refine x_istore_n2 6 C dX12_unlike_5 rfl rfl ?_
  have L6 : ∀ (mz : Nat) (s : Nat) (y : Int), mz = 6 - s → ((s : Int) ≤ σ 51 18 ∧ y = s ∧ fstA (fun q => decide (σ 78 (40 * i + q) ≠ hasI (hadT X (cM σ) q))) (slN (cM σ) - s) s = othF X (cM σ) (fun q => σ 78 (40 * i + q))) → Ex K G (NN tc) ρ (shp tc cl) 6 [some (.ref (ρ 51)), some (.int (iZ (i : Int))), some (.int (iZ y))] [] s1 := by
    intro mz
    induction mz using Nat.strongRecOn with
    | ind mz ih =>
      intro s y hmz hinv
      obtain ⟨hs, rfl, hf⟩ := hinv
      have hss : (s : Int).toNat = s := Int.toNat_natCast s
      have hsl : slN (cM σ) = (σ 51 18).toNat := slN_M
      refine x_iload_n 7 C dX12_unlike_6 rfl rfl rfl ?_
      refine x_aload_n 8 C dX12_unlike_7 rfl rfl rfl ?_
      refine x_geti (j := 18) 11 C rfl (lt79 (by decide)) rfl rfl (by decide) inT12 tb_4_152 rfl dX12_unlike_8 rfl (fun r8 => ?_)
      refine x_icmp_ge 42 14 C dX12_unlike_11 rfl rfl (by omega) (by omega) (fun h11 => ?_) (fun h11 => ?_)
      · refine x_iconst 43 C dX12_unlike_42 rfl ?_
        refine x_iret C T dX12_unlike_43 ?_
        refine PI_i (by omega) ⟨hM_1, hV_1, ?_⟩
        rw [← hf]
        first
          | (exfalso; omega)
          | (rw [show slN (cM σ) - s = (slN (cM σ) - (s + 1)) + 1 by omega]
             simp only [fstA]
             rw [if_pos (by rw [decide_eq_true_eq]; omega)])
          | (rw [show slN (cM σ) - s = 0 by omega]; rfl)
      refine x_aload_n 15 C dX12_unlike_14 rfl rfl rfl ?_
      refine x_getr (j := 39) 18 C rfl (lt79 (by decide)) rfl rfl (by decide) inT12 tb_4_173 rfl dX12_unlike_15 rfl ?_
      refine x_iload_n 19 C dX12_unlike_18 rfl rfl rfl ?_
      refine x_iald 20 C rfl (lt79 (by decide)) dX12_unlike_19 rfl (by omega) (by omega) (fun r19 => ?_)
      rw [hss, (hD_1 s (by omega)).1] at r19 ⊢
      refine x_aload_n 21 C dX12_unlike_20 rfl rfl rfl ?_
      refine x_getr (j := 55) 24 C rfl (lt79 (by decide)) rfl rfl (by decide) inT12 tb_4_189 rfl dX12_unlike_21 rfl ?_
      refine x_bipush 26 C dX12_unlike_24 rfl rfl ?_
      refine x_iload_n 27 C dX12_unlike_26 rfl rfl rfl ?_
      refine x_imul 28 C dX12_unlike_27 rfl ?_
      refine x_iload_n 29 C dX12_unlike_28 rfl rfl rfl ?_
      refine x_iadd 30 C dX12_unlike_29 rfl ?_
      refine x_iald 31 C rfl (lt79 (by decide)) dX12_unlike_30 rfl (by omega) (by omega) (fun r30 => ?_)
      rw [show s1 78 = σ 78 from KM_row hM_1 (by omega) (by omega) (by omega) (by omega), show (40 * (i : Int) + (s : Int)).toNat = 40 * i + s by omega] at r30 ⊢
      refine x_icmp_eq 36 34 C dX12_unlike_31 rfl rfl (by omega) (by omega) (fun h31 => ?_) (fun h31 => ?_)
      · refine x_iinc_2 39 C dX12_unlike_36 rfl rfl ?_
        refine x_goto 6 C dX12_unlike_39 rfl ?_
        refine ih _ (by omega) (s + 1) _ rfl ⟨by omega, by omega, ?_⟩
        rw [show slN (cM σ) - s = (slN (cM σ) - (s + 1)) + 1 by omega] at hf
        simp only [fstA] at hf
        rw [if_neg (by rw [decide_eq_true_eq]; omega)] at hf
        exact hf
      refine x_iload_n 35 C dX12_unlike_34 rfl rfl rfl ?_
      refine x_iret C T dX12_unlike_35 ?_
      refine PI_i (by omega) ⟨hM_1, hV_1, ?_⟩
      rw [← hf]
      first
        | (exfalso; omega)
        | (rw [show slN (cM σ) - s = (slN (cM σ) - (s + 1)) + 1 by omega]
           simp only [fstA]
           rw [if_pos (by rw [decide_eq_true_eq]; omega)])
        | (rw [show slN (cM σ) - s = 0 by omega]; rfl)
  exact L6 _ 0 _ rfl ⟨by omega, rfl, rfl⟩

set_option maxHeartbeats 4000000 in
set_option maxRecDepth 100000 in
theorem c_X12_turned {l : Launch} {G : Gt} {ρ : Nat → Nat} {tc : Nat} {cl : Nat → Nat} {σ : Sig} {X : Nat → RuT} {N : Nat} {v w : Int} (hW : MW X N σ) (hv : -2147483648 ≤ v ∧ v ≤ 2147483647) (hw : -2147483648 ≤ w ∧ w ≤ 2147483647) : MX l yX12_turned cX12_turned 9 (some .int) 57 1375 G (NN tc) ρ (shp tc cl) [.ref (ρ 51), .int (iZ v), .int (iZ w)] σ (PI (fun z σ' => KM σ σ' ∧ KV X N σ' ∧ z = rTurned X (cM σ) (refM σ v.toNat) (fun q => σ 78 (40 * v.toNat + q)) v w)) := by
  refine MX_of [some (.ref (ρ 51)), some (.int (iZ v)), some (.int (iZ w)), none, none, none, none, none, none] (by decide +kernel) rfl rfl (Nat.le_of_ble_eq_true rfl) ?_
  intro K hKl C T hRng
  subst hKl
  have hT := hW.1
  have h8 := hT.2.2.2.1
  have hTc := TI_cM hT
  refine x_iload_n 1 C dX12_turned_0 rfl rfl rfl ?_
  refine x_callSe 4 C dX12_turned_1 rfl (c_X12_isSheet (by omega)) tb_6_59 tb_6_60 tb_1_20 tb_6_61 (na := 1) (by decide +kernel) rfl ⟨by decide, by decide⟩ rfl (Nat.le_of_ble_eq_true rfl) rfl (fun r1 => ?_)
  first
    | refine x_ifb_eq 17 7 C dX12_turned_4 rfl rfl (fun h4 => ?_) (fun h4 => ?_)
    | refine x_if_eq 17 7 C dX12_turned_4 rfl rfl (by omega) (fun h4 => ?_) (fun h4 => ?_)
  · refine x_bipush 19 C dX12_turned_17 rfl rfl ?_
    refine x_iret C T dX12_turned_19 ?_
    refine PI_i (by omega) ⟨?_, ?_, ?_⟩
    · first | exact KM_refl σ | exact hM1
    · first | exact hW.2.2.2 | exact hV1
    · unfold rTurned
      first
        | (rw [if_neg (by omega)]; done)
        | (rw [if_pos (by omega), hii, if_neg (by omega), if_pos (by omega), slN_M, show (σ 51 18).toNat = s by omega]; exact hmn)
        | (rw [if_pos (by omega), hii, if_neg (by omega), if_neg (by omega), slN_M, show (σ 51 18).toNat = s by omega]; exact hfi)
  refine x_iload_n 8 C dX12_turned_7 rfl rfl rfl ?_
  refine x_i2l 9 C dX12_turned_8 rfl (by omega) ?_
  refine x_lconst 10 C dX12_turned_9 rfl 0 rfl ?_
  refine x_lconst 11 C dX12_turned_10 rfl 1 rfl ?_
  refine x_callSe 14 C dX12_turned_11 rfl (c_X12_in (by omega) (by omega) (by omega)) tb_5_69 tb_5_70 tb_1_20 tb_5_71 (na := 3) (by decide +kernel) rfl ⟨by decide, by decide⟩ rfl (Nat.le_of_ble_eq_true rfl) rfl (fun r11 => ?_)
  first
    | refine x_ifb_ne 20 17 C dX12_turned_14 rfl rfl (fun h14 => ?_) (fun h14 => ?_)
    | refine x_if_ne 20 17 C dX12_turned_14 rfl rfl (by omega) (fun h14 => ?_) (fun h14 => ?_)
  rotate_left
  · refine x_bipush 19 C dX12_turned_17 rfl rfl ?_
    refine x_iret C T dX12_turned_19 ?_
    refine PI_i (by omega) ⟨?_, ?_, ?_⟩
    · first | exact KM_refl σ | exact hM1
    · first | exact hW.2.2.2 | exact hV1
    · unfold rTurned
      first
        | (rw [if_neg (by omega)]; done)
        | (rw [if_pos (by omega), hii, if_neg (by omega), if_pos (by omega), slN_M, show (σ 51 18).toNat = s by omega]; exact hmn)
        | (rw [if_pos (by omega), hii, if_neg (by omega), if_neg (by omega), slN_M, show (σ 51 18).toNat = s by omega]; exact hfi)
  obtain ⟨i, rfl⟩ : ∃ i : Nat, v = (i : Int) := ⟨v.toNat, by omega⟩
  have hii : (i : Int).toNat = i := Int.toNat_natCast i
  have hrf := refM_in σ i
  refine x_aload_n 21 C dX12_turned_20 rfl rfl rfl ?_
  refine x_iload_n 22 C dX12_turned_21 rfl rfl rfl ?_
  refine x_callVe 25 C dX12_turned_22 rfl (c_X12_hadBad (by omega) hT) rfl (lt79 (by decide)) rfl tb_6_62 tb_6_64 tb_0_66 tb_1_20 tb_6_65 (na := 1) (by decide +kernel) rfl ⟨by decide, by decide⟩ rfl (Nat.le_of_ble_eq_true rfl) rfl (fun r22 => ?_)
  refine x_istore_n3 26 C dX12_turned_25 rfl rfl ?_
  refine x_iload_n 27 C dX12_turned_26 rfl rfl rfl ?_
  refine x_if_eq 32 30 C dX12_turned_27 rfl rfl (by omega) (fun h27 => ?_) (fun h27 => ?_)
  · rw [if_pos (by omega), hii] at h27
    rw [if_pos (by omega), hii, h27]
    refine x_iconst 33 C dX12_turned_32 rfl ?_
    refine x_istore_4 35 C dX12_turned_33 rfl rfl ?_
    refine x_iconst 36 C dX12_turned_35 rfl ?_
    refine x_istore_5 38 C dX12_turned_36 rfl rfl ?_
    refine x_iconst 39 C dX12_turned_38 rfl ?_
    refine x_istore_6 41 C dX12_turned_39 rfl rfl ?_
    have L41 : ∀ (mz : Nat) (s : Nat) (y mn fi : Int) (s1 : Sig) (x7 x8 : Option Value), mz = 6 - s → ((s : Int) ≤ σ 51 18 ∧ y = s ∧ KM σ s1 ∧ KV X N s1 ∧ mn = (trS X (cM σ) (fun q => σ 78 (40 * i + q)) s).1 ∧ fi = (trS X (cM σ) (fun q => σ 78 (40 * i + q)) s).2) → Ex K G (NN tc) ρ (shp tc cl) 41 [some (.ref (ρ 51)), some (.int (iZ (i : Int))), some (.int (iZ w)), some (.int (iZ 0)), some (.int (iZ mn)), some (.int (iZ fi)), some (.int (iZ y)), x7, x8] [] s1 := by
      intro mz
      induction mz using Nat.strongRecOn with
      | ind mz ih =>
        intro s y mn fi s1 x7 x8 hmz hinv
        have ihs := ih
        obtain ⟨hs, rfl, hM1, hV1, hmn, hfi⟩ := hinv
        have hbi := trS_in (X := X) (T := cM σ) (it := (fun q => σ 78 (40 * i + q))) s (by omega)
        have e18a : s1 51 18 = σ 51 18 := hM1.2 18 (by omega)
        have hss : (s : Int).toNat = s := Int.toNat_natCast s
        have hqs := hT.2.2.2.2 s
        have h8c : (cM σ) 8 s = σ 61 s := rfl
        have h9c : (cM σ) 9 s = σ 62 s := rfl
        refine x_iload 43 C dX12_turned_41 rfl rfl ?_
        refine x_aload_n 44 C dX12_turned_43 rfl rfl rfl ?_
        refine x_geti (j := 18) 47 C rfl (lt79 (by decide)) rfl rfl (by decide) inT12 tb_4_152 rfl dX12_turned_44 rfl (fun r44 => ?_)
        refine x_icmp_ge 138 50 C dX12_turned_47 rfl rfl (by omega) (by omega) (fun h47 => ?_) (fun h47 => ?_)
        rotate_left
        · refine x_aload_n 51 C dX12_turned_50 rfl rfl rfl ?_
          refine x_getr (j := 15) 54 C rfl (lt79 (by decide)) rfl rfl (by decide) inT12 tb_4_149 rfl dX12_turned_51 rfl ?_
          refine x_iload 56 C dX12_turned_54 rfl rfl ?_
          refine x_iald 57 C rfl (lt79 (by decide)) dX12_turned_56 rfl (by omega) (by omega) (fun r56 => ?_)
          rw [hss, show s1 61 = σ 61 from KM_row hM1 (by omega) (by omega) (by omega) (by omega)] at r56 ⊢
          refine x_istore_7 59 C dX12_turned_57 rfl rfl ?_
          refine x_iconst 60 C dX12_turned_59 rfl ?_
          refine x_istore_8 62 C dX12_turned_60 rfl rfl ?_
          have L62 : ∀ (mz : Nat) (k : Nat) (y mn2 fi2 : Int) (s2 : Sig), mz = 4 - k → (k ≤ 4 ∧ y = k ∧ KX (HW1 s) σ s2 ∧ KV X N s2 ∧ mn2 = (trW X (cM σ) (fun q => σ 78 (40 * i + q)) s k (trS X (cM σ) (fun q => σ 78 (40 * i + q)) s)).1 ∧ fi2 = (trW X (cM σ) (fun q => σ 78 (40 * i + q)) s k (trS X (cM σ) (fun q => σ 78 (40 * i + q)) s)).2) → Ex K G (NN tc) ρ (shp tc cl) 62 [some (.ref (ρ 51)), some (.int (iZ (i : Int))), some (.int (iZ w)), some (.int (iZ 0)), some (.int (iZ mn2)), some (.int (iZ fi2)), some (.int (iZ (s : Int))), some (.int (iZ (σ 61 s))), some (.int (iZ y))] [] s2 := by
            intro mz
            induction mz using Nat.strongRecOn with
            | ind mz ih =>
              intro k y mn2 fi2 s2 hmz hinv
              obtain ⟨hk, rfl, hX2, hV2, hmn2, hfi2⟩ := hinv
              have hbk := trW_in (X := X) (T := cM σ) (it := (fun q => σ 78 (40 * i + q))) (s := s) (by omega) hbi k hk
              refine x_iload 64 C dX12_turned_62 rfl rfl ?_
              refine x_iconst 65 C dX12_turned_64 rfl ?_
              refine x_icmp_ge 123 68 C dX12_turned_65 rfl rfl (by omega) (by omega) (fun h65 => ?_) (fun h65 => ?_)
              · refine x_aload_n 124 C dX12_turned_123 rfl rfl rfl ?_
                refine x_getr (j := 15) 127 C rfl (lt79 (by decide)) rfl rfl (by decide) inT12 tb_4_149 rfl dX12_turned_124 rfl ?_
                refine x_iload 129 C dX12_turned_127 rfl rfl ?_
                refine x_iload 131 C dX12_turned_129 rfl rfl ?_
                refine x_iast 132 C rfl (lt79 (by decide)) dX12_turned_131 rfl (by omega) (by omega) (by omega) ?_
                refine x_iinc_6 135 C dX12_turned_132 rfl rfl ?_
                refine x_goto 41 C dX12_turned_135 rfl ?_
                refine ihs _ (by omega) (s + 1) _ _ _ _ _ _ rfl ⟨by omega, by omega, ?_, KV_keep hV2 (up_row (by omega)) (up_row (by omega)), by rw [hmn2, show k = 4 by omega]; rfl, by rw [hfi2, show k = 4 by omega]; rfl⟩
                rw [hss]
                refine KX_KM' (KX_up hX2 ⟨rfl, rfl⟩) (fun a b hh => ?_)
                obtain ⟨rfl, rfl⟩ := hh
                exact up_s
              have J117 : ∀ (mn5 fi5 : Int) (s5 : Sig), (KX (HW1 s) σ s5 ∧ KV X N s5 ∧ mn5 = (trW X (cM σ) (fun q => σ 78 (40 * i + q)) s (k + 1) (trS X (cM σ) (fun q => σ 78 (40 * i + q)) s)).1 ∧ fi5 = (trW X (cM σ) (fun q => σ 78 (40 * i + q)) s (k + 1) (trS X (cM σ) (fun q => σ 78 (40 * i + q)) s)).2) → Ex K G (NN tc) ρ (shp tc cl) 117 [some (.ref (ρ 51)), some (.int (iZ (i : Int))), some (.int (iZ w)), some (.int (iZ 0)), some (.int (iZ mn5)), some (.int (iZ fi5)), some (.int (iZ (s : Int))), some (.int (iZ (σ 61 s))), some (.int (iZ (k : Int)))] [] s5 := by
                intro mn5 fi5 s5 hinv
                obtain ⟨hX5, hV5, hmn5, hfi5⟩ := hinv
                refine x_iinc_8 120 C dX12_turned_117 rfl rfl ?_
                refine x_goto 62 C dX12_turned_120 rfl ?_
                exact ih _ (by omega) (k + 1) _ _ _ _ rfl ⟨by omega, by omega, hX5, hV5, hmn5, hfi5⟩
              refine x_aload_n 69 C dX12_turned_68 rfl rfl rfl ?_
              refine x_getr (j := 15) 72 C rfl (lt79 (by decide)) rfl rfl (by decide) inT12 tb_4_149 rfl dX12_turned_69 rfl ?_
              refine x_iload 74 C dX12_turned_72 rfl rfl ?_
              refine x_iload 76 C dX12_turned_74 rfl rfl ?_
              refine x_iast 77 C rfl (lt79 (by decide)) dX12_turned_76 rfl (by omega) (by omega) (by omega) ?_
              rw [hss]
              obtain ⟨u, hue⟩ : ∃ u, up s2 61 s (k : Int) = u := ⟨_, rfl⟩
              rw [hue]
              have hXu : KX (HW1 s) σ u := by rw [← hue]; exact KX_up hX2 ⟨rfl, rfl⟩
              have hXs : KX (HS s) σ u := KX_mono hXu (fun a b h1 h2 => absurd (Or.inl ⟨Or.inl h1.1, h1.2⟩) h2)
              have hVu : KV X N u := by rw [← hue]; exact KV_keep hV2 (up_row (by omega)) (up_row (by omega))
              have um : u 62 s = σ 62 s := hXu.1 62 s (by omega) (by omega) (by omega) (by omega) (fun h => by unfold HW1 at h; omega)
              have uw : u 61 s = (k : Int) := by rw [← hue, up_s]
              have hW_u : MW X N u := KX_MWS hXs hVu (by omega) (by omega) hW
              have f18_u : u 51 18 = σ 51 18 := hXu.2 18 (by omega) (fun hh => by unfold HW1 at hh; omega)
              have hu_u : cM u = tS (cM σ) s ((cM σ) 9 s) (k : Int) := KX_cS hXs um uw
              refine x_iload 79 C dX12_turned_77 rfl rfl ?_
              refine x_iload 81 C dX12_turned_79 rfl rfl ?_
              refine x_icmp_eq 117 84 C dX12_turned_81 rfl rfl (by omega) (by omega) (fun h81 => ?_) (fun h81 => ?_)
              · have hst : (trW X (cM σ) (fun q => σ 78 (40 * i + q)) s (k + 1) (trS X (cM σ) (fun q => σ 78 (40 * i + q)) s)) = (trW X (cM σ) (fun q => σ 78 (40 * i + q)) s k (trS X (cM σ) (fun q => σ 78 (40 * i + q)) s)) := by simp only [trW]; rw [if_neg (fun h => h.1 h81)]
                first | exact J117 _ _ _ ⟨hXu, hVu, by rw [hst]; exact hmn2, by rw [hst]; exact hfi2⟩ | exact J117 _ _ _ ⟨KX_KM hXu hM_86, hV_86, by rw [hst]; exact hmn2, by rw [hst]; exact hfi2⟩ | exact J117 _ _ _ ⟨KX_KM hXu hM_86, hV_86, by rw [hst, hmn2], by rw [hst]; exact hx⟩
              refine x_aload_n 85 C dX12_turned_84 rfl rfl rfl ?_
              refine x_iload_n 86 C dX12_turned_85 rfl rfl rfl ?_
              refine x_callVi 89 C dX12_turned_86 rfl (c_X12_unlike (X := X) (N := N) (i := i) hW_u (by omega)) rfl (lt79 (by decide)) rfl tb_6_66 tb_6_68 tb_0_67 tb_1_20 tb_6_69 (na := 1) (by decide +kernel) rfl ⟨by decide, by decide⟩ rfl (Nat.le_of_ble_eq_true rfl) rfl (fun z86 s86 hz86 hq86 hR86 => ?_)
              obtain ⟨hM_86, hV_86, hz_86⟩ := hq86
              rw [hu_u, show (fun q => u 78 (40 * i + q)) = (fun q => σ 78 (40 * i + q)) from funext fun q => congrFun (KX_row hXu (by omega) (by omega) (by omega) (by omega) (fun b hb => by unfold HW1 at hb; omega)) (40 * i + q)] at hz_86
              refine x_iconst 90 C dX12_turned_89 rfl ?_
              refine x_icmp_ne 117 93 C dX12_turned_90 rfl rfl (by omega) (by omega) (fun h90 => ?_) (fun h90 => ?_)
              · have hst : (trW X (cM σ) (fun q => σ 78 (40 * i + q)) s (k + 1) (trS X (cM σ) (fun q => σ 78 (40 * i + q)) s)) = (trW X (cM σ) (fun q => σ 78 (40 * i + q)) s k (trS X (cM σ) (fun q => σ 78 (40 * i + q)) s)) := by simp only [trW]; rw [if_neg (fun h => h90 (by rw [hz_86]; exact h.2))]
                first | exact J117 _ _ _ ⟨hXu, hVu, by rw [hst]; exact hmn2, by rw [hst]; exact hfi2⟩ | exact J117 _ _ _ ⟨KX_KM hXu hM_86, hV_86, by rw [hst]; exact hmn2, by rw [hst]; exact hfi2⟩ | exact J117 _ _ _ ⟨KX_KM hXu hM_86, hV_86, by rw [hst, hmn2], by rw [hst]; exact hx⟩
              have hst : (trW X (cM σ) (fun q => σ 78 (40 * i + q)) s (k + 1) (trS X (cM σ) (fun q => σ 78 (40 * i + q)) s)) = ((trW X (cM σ) (fun q => σ 78 (40 * i + q)) s k (trS X (cM σ) (fun q => σ 78 (40 * i + q)) s)).1 + 1, if (trW X (cM σ) (fun q => σ 78 (40 * i + q)) s k (trS X (cM σ) (fun q => σ 78 (40 * i + q)) s)).2 = -1 then 10 * (s : Int) + k else (trW X (cM σ) (fun q => σ 78 (40 * i + q)) s k (trS X (cM σ) (fun q => σ 78 (40 * i + q)) s)).2) := by simp only [trW]; rw [if_pos ⟨h81, by rw [← hz_86]; exact h90⟩]
              have J115 : ∀ (x : Int), (x = (if (trW X (cM σ) (fun q => σ 78 (40 * i + q)) s k (trS X (cM σ) (fun q => σ 78 (40 * i + q)) s)).2 = -1 then 10 * (s : Int) + k else (trW X (cM σ) (fun q => σ 78 (40 * i + q)) s k (trS X (cM σ) (fun q => σ 78 (40 * i + q)) s)).2)) → Ex K G (NN tc) ρ (shp tc cl) 115 [some (.ref (ρ 51)), some (.int (iZ (i : Int))), some (.int (iZ w)), some (.int (iZ 0)), some (.int (iZ (mn2 + 1))), some (.int (iZ fi2)), some (.int (iZ (s : Int))), some (.int (iZ (σ 61 s))), some (.int (iZ (k : Int)))] [.int (iZ x)] s86 := by
                intro x hinv
                have hx := hinv
                have hxr : -1 ≤ x ∧ x ≤ 100 := by rw [hx]; split <;> omega
                refine x_istore_5 117 C dX12_turned_115 rfl rfl ?_
                first | exact J117 _ _ _ ⟨hXu, hVu, by rw [hst]; exact hmn2, by rw [hst]; exact hfi2⟩ | exact J117 _ _ _ ⟨KX_KM hXu hM_86, hV_86, by rw [hst]; exact hmn2, by rw [hst]; exact hfi2⟩ | exact J117 _ _ _ ⟨KX_KM hXu hM_86, hV_86, by rw [hst, hmn2], by rw [hst]; exact hx⟩
              refine x_iinc_4 96 C dX12_turned_93 rfl rfl ?_
              refine x_iload 98 C dX12_turned_96 rfl rfl ?_
              refine x_iconst 99 C dX12_turned_98 rfl ?_
              refine x_icmp_ne 113 102 C dX12_turned_99 rfl rfl (by omega) (by omega) (fun h99 => ?_) (fun h99 => ?_)
              · refine x_iload 115 C dX12_turned_113 rfl rfl ?_
                exact J115 _ (by rw [← hfi2]; first | rw [if_pos (by omega)] | rw [if_neg (by omega)])
              refine x_bipush 104 C dX12_turned_102 rfl rfl ?_
              refine x_iload 106 C dX12_turned_104 rfl rfl ?_
              refine x_imul 107 C dX12_turned_106 rfl ?_
              refine x_iload 109 C dX12_turned_107 rfl rfl ?_
              refine x_iadd 110 C dX12_turned_109 rfl ?_
              refine x_goto 115 C dX12_turned_110 rfl ?_
              exact J115 _ (by rw [← hfi2]; first | rw [if_pos (by omega)] | rw [if_neg (by omega)])
          exact L62 _ 0 _ _ _ _ rfl ⟨by omega, rfl, KM_KX hM1, hV1, hmn, hfi⟩
        refine x_iload_n 139 C dX12_turned_138 rfl rfl rfl ?_
        refine x_if_ne 147 142 C dX12_turned_139 rfl rfl (by omega) (fun h139 => ?_) (fun h139 => ?_)
        · refine x_iload 149 C dX12_turned_147 rfl rfl ?_
          refine x_iret C T dX12_turned_149 ?_
          refine PI_i (by omega) ⟨?_, ?_, ?_⟩
          · first | exact KM_refl σ | exact hM1
          · first | exact hW.2.2.2 | exact hV1
          · unfold rTurned
            first
              | (rw [if_neg (by omega)]; done)
              | (rw [if_pos (by omega), hii, if_neg (by omega), if_pos (by omega), slN_M, show (σ 51 18).toNat = s by omega]; exact hmn)
              | (rw [if_pos (by omega), hii, if_neg (by omega), if_neg (by omega), slN_M, show (σ 51 18).toNat = s by omega]; exact hfi)
        refine x_iload 144 C dX12_turned_142 rfl rfl ?_
        refine x_goto 149 C dX12_turned_144 rfl ?_
        refine x_iret C T dX12_turned_149 ?_
        refine PI_i (by omega) ⟨?_, ?_, ?_⟩
        · first | exact KM_refl σ | exact hM1
        · first | exact hW.2.2.2 | exact hV1
        · unfold rTurned
          first
            | (rw [if_neg (by omega)]; done)
            | (rw [if_pos (by omega), hii, if_neg (by omega), if_pos (by omega), slN_M, show (σ 51 18).toNat = s by omega]; exact hmn)
            | (rw [if_pos (by omega), hii, if_neg (by omega), if_neg (by omega), slN_M, show (σ 51 18).toNat = s by omega]; exact hfi)
    exact L41 _ 0 _ _ _ _ _ _ rfl ⟨by omega, rfl, KM_refl σ, hW.2.2.2, rfl, rfl⟩
  refine x_iload_n 31 C dX12_turned_30 rfl rfl rfl ?_
  refine x_iret C T dX12_turned_31 ?_
  refine PI_i (by omega) ⟨KM_refl σ, hW.2.2.2, ?_⟩
  rw [if_pos (by omega), hii] at h27 ⊢
  unfold rTurned
  rw [if_pos (by omega), if_pos h27]

set_option maxHeartbeats 4000000 in
set_option maxRecDepth 100000 in
theorem c_X12_woke {l : Launch} {G : Gt} {ρ : Nat → Nat} {tc : Nat} {cl : Nat → Nat} {σ : Sig} {X : Nat → RuT} {N : Nat} {v w : Int} (hW : MW X N σ) (hv : -2147483648 ≤ v ∧ v ≤ 2147483647) (hw : -2147483648 ≤ w ∧ w ≤ 2147483647) : MX l yX12_woke cX12_woke 7 (some .int) 57 1375 G (NN tc) ρ (shp tc cl) [.ref (ρ 51), .int (iZ v), .int (iZ w)] σ (PI (fun z σ' => KM σ σ' ∧ KV X N σ' ∧ z = rWoke X (cM σ) (refM σ v.toNat) (fun q => σ 78 (40 * v.toNat + q)) v w)) := by
  refine MX_of [some (.ref (ρ 51)), some (.int (iZ v)), some (.int (iZ w)), none, none, none, none] (by decide +kernel) rfl rfl (Nat.le_of_ble_eq_true rfl) ?_
  intro K hKl C T hRng
  subst hKl
  have hT := hW.1
  have h8 := hT.2.2.2.1
  have hTc := TI_cM hT
  refine x_iload_n 1 C dX12_woke_0 rfl rfl rfl ?_
  refine x_callSe 4 C dX12_woke_1 rfl (c_X12_isSheet (by omega)) tb_6_59 tb_6_60 tb_1_20 tb_6_61 (na := 1) (by decide +kernel) rfl ⟨by decide, by decide⟩ rfl (Nat.le_of_ble_eq_true rfl) rfl (fun r1 => ?_)
  first
    | refine x_ifb_eq 15 7 C dX12_woke_4 rfl rfl (fun h4 => ?_) (fun h4 => ?_)
    | refine x_if_eq 15 7 C dX12_woke_4 rfl rfl (by omega) (fun h4 => ?_) (fun h4 => ?_)
  · refine x_bipush 17 C dX12_woke_15 rfl rfl ?_
    refine x_iret C T dX12_woke_17 ?_
    refine PI_i (by omega) ⟨?_, ?_, ?_⟩
    · first
        | exact KM_refl σ
        | (rw [hss]
           refine KX_KM' (KX_up hX1 ⟨rfl, rfl⟩) (fun a b hh => ?_)
           obtain ⟨rfl, rfl⟩ := hh
           exact up_s)
    · first | exact hW.2.2.2 | exact KV_keep hV1 (up_row (by omega)) (up_row (by omega))
    · unfold rWoke
      first
        | (rw [if_neg (by rw [cM_18]; omega)]; done)
        | (rw [if_pos (by rw [cM_18]; omega), hii, if_neg (by omega), hss, show (24 : Nat) = k by omega])
  refine x_aload_n 8 C dX12_woke_7 rfl rfl rfl ?_
  refine x_iload_n 9 C dX12_woke_8 rfl rfl rfl ?_
  refine x_callVe 12 C dX12_woke_9 rfl (c_X12_isOne (by omega) hT) rfl (lt79 (by decide)) rfl tb_5_101 tb_5_103 tb_0_38 tb_1_20 tb_5_104 (na := 1) (by decide +kernel) rfl ⟨by decide, by decide⟩ rfl (Nat.le_of_ble_eq_true rfl) rfl (fun r9 => ?_)
  first
    | refine x_ifb_ne 18 15 C dX12_woke_12 rfl rfl (fun h12 => ?_) (fun h12 => ?_)
    | refine x_if_ne 18 15 C dX12_woke_12 rfl rfl (by omega) (fun h12 => ?_) (fun h12 => ?_)
  rotate_left
  · refine x_bipush 17 C dX12_woke_15 rfl rfl ?_
    refine x_iret C T dX12_woke_17 ?_
    refine PI_i (by omega) ⟨?_, ?_, ?_⟩
    · first
        | exact KM_refl σ
        | (rw [hss]
           refine KX_KM' (KX_up hX1 ⟨rfl, rfl⟩) (fun a b hh => ?_)
           obtain ⟨rfl, rfl⟩ := hh
           exact up_s)
    · first | exact hW.2.2.2 | exact KV_keep hV1 (up_row (by omega)) (up_row (by omega))
    · unfold rWoke
      first
        | (rw [if_neg (by rw [cM_18]; omega)]; done)
        | (rw [if_pos (by rw [cM_18]; omega), hii, if_neg (by omega), hss, show (24 : Nat) = k by omega])
  obtain ⟨i, rfl⟩ : ∃ i : Nat, v = (i : Int) := ⟨v.toNat, by omega⟩
  have hii : (i : Int).toNat = i := Int.toNat_natCast i
  have hrf := refM_in σ i
  obtain ⟨s, rfl⟩ : ∃ s : Nat, w = (s : Int) := ⟨w.toNat, by omega⟩
  have hss : (s : Int).toNat = s := Int.toNat_natCast s
  have hqs := hT.2.2.2.2 s
  have h8c : (cM σ) 8 s = σ 61 s := rfl
  refine x_aload_n 19 C dX12_woke_18 rfl rfl rfl ?_
  refine x_iload_n 20 C dX12_woke_19 rfl rfl rfl ?_
  refine x_callVe 23 C dX12_woke_20 rfl (c_X12_hadBad (by omega) hT) rfl (lt79 (by decide)) rfl tb_6_62 tb_6_64 tb_0_66 tb_1_20 tb_6_65 (na := 1) (by decide +kernel) rfl ⟨by decide, by decide⟩ rfl (Nat.le_of_ble_eq_true rfl) rfl (fun r20 => ?_)
  refine x_istore_n3 24 C dX12_woke_23 rfl rfl ?_
  refine x_iload_n 25 C dX12_woke_24 rfl rfl rfl ?_
  refine x_if_eq 30 28 C dX12_woke_25 rfl rfl (by omega) (fun h25 => ?_) (fun h25 => ?_)
  · rw [if_pos (by omega), hii] at h25
    rw [if_pos (by omega), hii, h25]
    refine x_aload_n 31 C dX12_woke_30 rfl rfl rfl ?_
    refine x_getr (j := 16) 34 C rfl (lt79 (by decide)) rfl rfl (by decide) inT12 tb_4_150 rfl dX12_woke_31 rfl ?_
    refine x_iload_n 35 C dX12_woke_34 rfl rfl rfl ?_
    refine x_iald 36 C rfl (lt79 (by decide)) dX12_woke_35 rfl (by omega) (by omega) (fun r35 => ?_)
    rw [hss] at r35 ⊢
    refine x_istore_4 38 C dX12_woke_36 rfl rfl ?_
    refine x_iconst 39 C dX12_woke_38 rfl ?_
    refine x_istore_5 41 C dX12_woke_39 rfl rfl ?_
    refine x_iconst 42 C dX12_woke_41 rfl ?_
    refine x_istore_6 44 C dX12_woke_42 rfl rfl ?_
    have L44 : ∀ (mz : Nat) (k : Nat) (y g : Int) (s1 : Sig), mz = 24 - k → (k ≤ 24 ∧ y = k ∧ KX (HW2 s) σ s1 ∧ KV X N s1 ∧ g = ((wokF X (cM σ) (fun q => σ 78 (40 * i + q)) s k : Nat) : Int)) → Ex K G (NN tc) ρ (shp tc cl) 44 [some (.ref (ρ 51)), some (.int (iZ (i : Int))), some (.int (iZ (s : Int))), some (.int (iZ 0)), some (.int (iZ (σ 62 s))), some (.int (iZ g)), some (.int (iZ y))] [] s1 := by
      intro mz
      induction mz using Nat.strongRecOn with
      | ind mz ih =>
        intro k y g s1 hmz hinv
        obtain ⟨hk, rfl, hX1, hV1, rfl⟩ := hinv
        have hlt := wokF_lt X (cM σ) (fun q => σ 78 (40 * i + q)) s k
        have hp24 : (2 : Nat) ^ k ≤ 16777216 := Nat.le_trans (Nat.pow_le_pow_right (by decide) hk) (by decide)
        refine x_iload 46 C dX12_woke_44 rfl rfl ?_
        refine x_bipush 48 C dX12_woke_46 rfl rfl ?_
        refine x_icmp_ge 87 51 C dX12_woke_48 rfl rfl (by omega) (by omega) (fun h48 => ?_) (fun h48 => ?_)
        · refine x_aload_n 88 C dX12_woke_87 rfl rfl rfl ?_
          refine x_getr (j := 16) 91 C rfl (lt79 (by decide)) rfl rfl (by decide) inT12 tb_4_150 rfl dX12_woke_88 rfl ?_
          refine x_iload_n 92 C dX12_woke_91 rfl rfl rfl ?_
          refine x_iload 94 C dX12_woke_92 rfl rfl ?_
          refine x_iast 95 C rfl (lt79 (by decide)) dX12_woke_94 rfl (by omega) (by omega) (by omega) ?_
          refine x_iload 97 C dX12_woke_95 rfl rfl ?_
          refine x_iret C T dX12_woke_97 ?_
          refine PI_i (by omega) ⟨?_, ?_, ?_⟩
          · first
              | exact KM_refl σ
              | (rw [hss]
                 refine KX_KM' (KX_up hX1 ⟨rfl, rfl⟩) (fun a b hh => ?_)
                 obtain ⟨rfl, rfl⟩ := hh
                 exact up_s)
          · first | exact hW.2.2.2 | exact KV_keep hV1 (up_row (by omega)) (up_row (by omega))
          · unfold rWoke
            first
              | (rw [if_neg (by rw [cM_18]; omega)]; done)
              | (rw [if_pos (by rw [cM_18]; omega), hii, if_neg (by omega), hss, show (24 : Nat) = k by omega])
        refine x_aload_n 52 C dX12_woke_51 rfl rfl rfl ?_
        refine x_getr (j := 16) 55 C rfl (lt79 (by decide)) rfl rfl (by decide) inT12 tb_4_150 rfl dX12_woke_52 rfl ?_
        refine x_iload_n 56 C dX12_woke_55 rfl rfl rfl ?_
        refine x_iload 58 C dX12_woke_56 rfl rfl ?_
        refine x_iast 59 C rfl (lt79 (by decide)) dX12_woke_58 rfl (by omega) (by omega) (by omega) ?_
        rw [hss]
        obtain ⟨u, hue⟩ : ∃ u, up s1 62 s (k : Int) = u := ⟨_, rfl⟩
        rw [hue]
        have hXu : KX (HW2 s) σ u := by rw [← hue]; exact KX_up hX1 ⟨rfl, rfl⟩
        have hXs : KX (HS s) σ u := KX_mono hXu (fun a b h1 h2 => absurd (Or.inl ⟨Or.inr h1.1, h1.2⟩) h2)
        have hVu : KV X N u := by rw [← hue]; exact KV_keep hV1 (up_row (by omega)) (up_row (by omega))
        have um : u 62 s = (k : Int) := by rw [← hue, up_s]
        have uw : u 61 s = σ 61 s := hXu.1 61 s (by omega) (by omega) (by omega) (by omega) (fun h => by unfold HW2 at h; omega)
        have hW_u : MW X N u := KX_MWS hXs hVu (by omega) (by omega) hW
        have f18_u : u 51 18 = σ 51 18 := hXu.2 18 (by omega) (fun hh => by unfold HW2 at hh; omega)
        have hu_u : cM u = tS (cM σ) s (k : Int) ((cM σ) 8 s) := KX_cS hXs um uw
        refine x_iload 61 C dX12_woke_59 rfl rfl ?_
        refine x_aload_n 62 C dX12_woke_61 rfl rfl rfl ?_
        refine x_iload_n 63 C dX12_woke_62 rfl rfl rfl ?_
        refine x_callVi 66 C dX12_woke_63 rfl (c_X12_unlike (X := X) (N := N) (i := i) hW_u (by omega)) rfl (lt79 (by decide)) rfl tb_6_66 tb_6_68 tb_0_67 tb_1_20 tb_6_69 (na := 1) (by decide +kernel) rfl ⟨by decide, by decide⟩ rfl (Nat.le_of_ble_eq_true rfl) rfl (fun z63 s63 hz63 hq63 hR63 => ?_)
        obtain ⟨hM_63, hV_63, hz_63⟩ := hq63
        rw [hu_u, show (fun q => u 78 (40 * i + q)) = (fun q => σ 78 (40 * i + q)) from funext fun q => congrFun (KX_row hXu (by omega) (by omega) (by omega) (by omega) (fun b hb => by unfold HW2 at hb; omega)) (40 * i + q)] at hz_63
        refine x_iconst 67 C dX12_woke_66 rfl ?_
        have J75 : ∀ (d : Int), ((d = 0 ∨ d = 1) ∧ ((wokF X (cM σ) (fun q => σ 78 (40 * i + q)) s (k + 1) : Nat) : Int) = ((wokF X (cM σ) (fun q => σ 78 (40 * i + q)) s k : Nat) : Int) + d * ((2 ^ k : Nat) : Int)) → Ex K G (NN tc) ρ (shp tc cl) 75 [some (.ref (ρ 51)), some (.int (iZ (i : Int))), some (.int (iZ (s : Int))), some (.int (iZ 0)), some (.int (iZ (σ 62 s))), some (.int (iZ ((wokF X (cM σ) (fun q => σ 78 (40 * i + q)) s k : Nat) : Int))), some (.int (iZ (k : Int)))] [.int (iZ d), .int (iZ ((wokF X (cM σ) (fun q => σ 78 (40 * i + q)) s k : Nat) : Int))] s63 := by
          intro d hinv
          obtain ⟨hd, hst⟩ := hinv
          refine x_iload 77 C dX12_woke_75 rfl rfl ?_
          refine x_ishl ((d * ((2 ^ k : Nat) : Int))) 78 C dX12_woke_77 rfl (shl_d hd (by omega)) ?_
          refine x_ior (((wokF X (cM σ) (fun q => σ 78 (40 * i + q)) s (k + 1) : Nat) : Int)) 79 C dX12_woke_78 rfl (or_d hd hlt (by omega) hst) ?_
          refine x_istore_5 81 C dX12_woke_79 rfl rfl ?_
          refine x_iinc_6 84 C dX12_woke_81 rfl rfl ?_
          refine x_goto 44 C dX12_woke_84 rfl ?_
          exact ih _ (by omega) (k + 1) _ _ _ rfl ⟨by omega, by omega, KX_KM hXu hM_63, hV_63, rfl⟩
        refine x_icmp_ne 74 70 C dX12_woke_67 rfl rfl (by omega) (by omega) (fun h67 => ?_) (fun h67 => ?_)
        · have hst : ((wokF X (cM σ) (fun q => σ 78 (40 * i + q)) s (k + 1) : Nat) : Int) = ((wokF X (cM σ) (fun q => σ 78 (40 * i + q)) s k : Nat) : Int) + 0 * ((2 ^ k : Nat) : Int) := by simp only [wokF]; rw [if_neg (fun h => h67 (by rw [hz_63]; exact h))]; omega
          refine x_iconst 75 C dX12_woke_74 rfl ?_
          exact J75 _ ⟨by omega, hst⟩
        have hst : ((wokF X (cM σ) (fun q => σ 78 (40 * i + q)) s (k + 1) : Nat) : Int) = ((wokF X (cM σ) (fun q => σ 78 (40 * i + q)) s k : Nat) : Int) + 1 * ((2 ^ k : Nat) : Int) := by simp only [wokF]; rw [if_pos (by rw [← hz_63]; exact h67)]; omega
        refine x_iconst 71 C dX12_woke_70 rfl ?_
        refine x_goto 75 C dX12_woke_71 rfl ?_
        exact J75 _ ⟨by omega, hst⟩
    exact L44 _ 0 _ _ _ rfl ⟨by omega, rfl, KX_refl σ, hW.2.2.2, rfl⟩
  refine x_iload_n 29 C dX12_woke_28 rfl rfl rfl ?_
  refine x_iret C T dX12_woke_29 ?_
  refine PI_i (by omega) ⟨KM_refl σ, hW.2.2.2, ?_⟩
  rw [if_pos (by omega), hii] at h25 ⊢
  unfold rWoke
  rw [if_pos (by rw [cM_18]; omega), if_pos h25]

set_option maxHeartbeats 4000000 in
set_option maxRecDepth 100000 in
theorem c_X12_judge {l : Launch} {G : Gt} {ρ : Nat → Nat} {tc : Nat} {cl : Nat → Nat} {σ : Sig} {X : Nat → RuT} {N : Nat} {v : Int} (hW : MW X N σ) (hv : -2147483648 ≤ v ∧ v ≤ 2147483647) : MX l yX12_judge cX12_judge 3 (some .int) 57 1375 G (NN tc) ρ (shp tc cl) [.ref (ρ 51), .int (iZ v)] σ (PI (fun z σ' => KM σ σ' ∧ KV X N σ' ∧ z = rJudge X (cM σ) (refM σ v.toNat) (fun q => σ 78 (40 * v.toNat + q)) v)) := by
  refine MX_of [some (.ref (ρ 51)), some (.int (iZ v)), none] (by decide +kernel) rfl rfl (Nat.le_of_ble_eq_true rfl) ?_
  intro K hKl C T hRng
  subst hKl
  have hT := hW.1
  have h8 := hT.2.2.2.1
  have hTc := TI_cM hT
  have hW_u := hW
  refine x_aload_n 1 C dX12_judge_0 rfl rfl rfl ?_
  refine x_iload_n 2 C dX12_judge_1 rfl rfl rfl ?_
  refine x_callVe 5 C dX12_judge_2 rfl (c_X12_hadBad (by omega) hT) rfl (lt79 (by decide)) rfl tb_6_62 tb_6_64 tb_0_66 tb_1_20 tb_6_65 (na := 1) (by decide +kernel) rfl ⟨by decide, by decide⟩ rfl (Nat.le_of_ble_eq_true rfl) rfl (fun r2 => ?_)
  refine x_istore_n2 6 C dX12_judge_5 rfl rfl ?_
  refine x_iload_n 7 C dX12_judge_6 rfl rfl rfl ?_
  refine x_if_eq 14 10 C dX12_judge_7 rfl rfl (by omega) (fun h7 => ?_) (fun h7 => ?_)
  · have hv4 : 0 ≤ v ∧ v < 4 := Decidable.byContradiction (fun h => by rw [if_neg h] at h7; omega)
    obtain ⟨i, rfl⟩ : ∃ i : Nat, v = (i : Int) := ⟨v.toNat, by omega⟩
    have hii : (i : Int).toNat = i := Int.toNat_natCast i
    have hrf := refM_in σ i
    rw [if_pos (by omega), hii] at h7
    refine x_aload_n 15 C dX12_judge_14 rfl rfl rfl ?_
    refine x_iload_n 16 C dX12_judge_15 rfl rfl rfl ?_
    refine x_callVi 19 C dX12_judge_16 rfl (c_X12_unlike (X := X) (N := N) (i := i) hW (by omega)) rfl (lt79 (by decide)) rfl tb_6_66 tb_6_68 tb_0_67 tb_1_20 tb_6_69 (na := 1) (by decide +kernel) rfl ⟨by decide, by decide⟩ rfl (Nat.le_of_ble_eq_true rfl) rfl (fun z16 s16 hz16 hq16 hR16 => ?_)
    obtain ⟨hM_16, hV_16, hz_16⟩ := hq16
    refine x_iret C T dX12_judge_19 ?_
    first
      | (refine PI_i (by omega) ⟨hM_16, hV_16, ?_⟩
         unfold rJudge
         rw [if_pos (by omega), hii, if_neg (by omega)]
         exact hz_16)
      | (refine PI_i (by omega) ⟨KM_refl σ, hW.2.2.2, ?_⟩
         unfold rJudge
         by_cases hv4 : 0 ≤ v ∧ v < 4
         · rw [if_pos hv4] at hno ⊢
           rw [if_pos hv4, if_pos hno]
         · rw [if_neg hv4, if_neg hv4])
  have hno := h7
  refine x_iload_n 11 C dX12_judge_10 rfl rfl rfl ?_
  refine x_goto 19 C dX12_judge_11 rfl ?_
  refine x_iret C T dX12_judge_19 ?_
  first
    | (refine PI_i (by omega) ⟨hM_16, hV_16, ?_⟩
       unfold rJudge
       rw [if_pos (by omega), hii, if_neg (by omega)]
       exact hz_16)
    | (refine PI_i (by omega) ⟨KM_refl σ, hW.2.2.2, ?_⟩
       unfold rJudge
       by_cases hv4 : 0 ≤ v ∧ v < 4
       · rw [if_pos hv4] at hno ⊢
         rw [if_pos hv4, if_pos hno]
       · rw [if_neg hv4, if_neg hv4])
