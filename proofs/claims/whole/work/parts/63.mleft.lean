theorem HDm_self {X : Nat → RuT} {σ s : Sig} (h : HDm X σ s) (hk : KM σ s) : HDm X s s := by
  unfold HDm at h ⊢
  rw [KM_cM hk, hk.2 18 (by omega)]
  exact h
theorem HDm_row {X : Nat → RuT} {σ s s2 : Sig} (h : HDm X σ s) (h1 : s2 69 = s 69) (h2 : s2 70 = s 70) : HDm X σ s2 := by
  intro a ha
  rw [h1, h2]
  exact h a ha
theorem HDm_q {X : Nat → RuT} {σ s : Sig} (hT : MI σ) (h : HDm X σ s) {a : Nat} (ha : (a : Int) < σ 51 18) : ∀ q, hadT X (cM σ) a = some q → s 70 a = (q.2 : Int) ∧ q.1 < 6 ∧ (q.1 : Int) < σ 51 13 ∧ q.2 ≤ 9 := by
  intro q hq
  have hm : q ∈ seenT X (cM σ) a := hadO_mem hq
  have := seenM_mem hT hm
  exact ⟨(h a ha).2 q hq, by omega, by omega, by omega⟩
theorem HDm_in {X : Nat → RuT} {σ s : Sig} (hT : MI σ) (h : HDm X σ s) {a : Nat} (ha : (a : Int) < σ 51 18) : -1 ≤ s 69 a ∧ s 69 a ≤ 5 := by
  rw [(h a ha).1]
  cases ho : hadT X (cM σ) a with
  | none => exact ⟨Int.le_refl _, show (-1 : Int) ≤ 5 by decide⟩
  | some q =>
    have hm : q ∈ seenT X (cM σ) a := hadO_mem ho
    have := (seenM_mem hT hm).1
    show -1 ≤ (q.1 : Int) ∧ (q.1 : Int) ≤ 5
    omega
set_option maxHeartbeats 4000000 in
set_option maxRecDepth 100000 in
theorem c_X12_leftOf {l : Launch} {G : Gt} {ρ : Nat → Nat} {tc : Nat} {cl : Nat → Nat} {σ : Sig} {X : Nat → RuT} {N s : Nat} {d : Option (Nat × Nat)} (hW : MW X N σ) (hs : (s : Int) < σ 51 18) (h69 : σ 69 s = hasI d) (h70 : ∀ q, d = some q → σ 70 s = (q.2 : Int) ∧ q.1 < 6 ∧ (q.1 : Int) < σ 51 13 ∧ q.2 ≤ 9) : MX l yX12_leftOf cX12_leftOf 4 (some .int) 54 1301 G (NN tc) ρ (shp tc cl) [.ref (ρ 51), .int (iZ (s : Int))] σ (PI (fun z σ' => FRk σ σ' ∧ KV X N σ' ∧ z = worO X (cM σ) (σ 62 s) s d - slpG X (cM σ) (σ 62 s) s)) := by
  refine MX_of [some (.ref (ρ 51)), some (.int (iZ (s : Int))), none, none] (by decide +kernel) rfl rfl (Nat.le_of_ble_eq_true rfl) ?_
  intro K hKl C T hRng
  subst hKl
  have hT := hW.1
  have h3 := hT.2.2.1
  have h4 := hT.2.1
  have h8 := hT.2.2.2.1
  have hss : (s : Int).toNat = s := Int.toNat_natCast s
  have hdd : -1 ≤ σ 69 s ∧ σ 69 s ≤ 5 := by
    rw [h69]
    cases hd : d with
    | none => exact ⟨Int.le_refl _, show (-1 : Int) ≤ 5 by decide⟩
    | some q =>
      have := h70 q hd
      show -1 ≤ (q.1 : Int) ∧ (q.1 : Int) ≤ 5
      omega
  refine x_aload_n 1 C dX12_leftOf_0 rfl rfl rfl ?_
  refine x_iconst 2 C dX12_leftOf_1 rfl ?_
  refine x_iload_n 3 C dX12_leftOf_2 rfl rfl rfl ?_
  refine x_iconst 4 C dX12_leftOf_3 rfl ?_
  refine x_iconst 5 C dX12_leftOf_4 rfl ?_
  refine x_callVi 8 C dX12_leftOf_5 rfl (c_X12_says (X := X) (N := N) (w := 2) (s := (s : Int)) (t := 0) (far := 0) hW.2.1 ⟨by omega, hW.2.2.1⟩ hW.2.2.2 (by omega) hT (by omega) (by omega) (by omega)) rfl (lt79 (by decide)) rfl tb_5_219 tb_5_221 tb_0_58 tb_1_20 tb_5_222 (na := 4) (by decide +kernel) rfl ⟨by decide, by decide⟩ rfl (Nat.le_of_ble_eq_true rfl) rfl (fun z5 s5 hz5 hq5 hR5 => ?_)
  obtain ⟨g1, g2, g3⟩ := hq5
  rw [if_pos rfl, if_pos rfl, hss] at g3
  have hK1 := FRk_KM g1
  have hW1 := KM_MW hK1 g2 hW
  have hT1 := hW1.1
  have e69 : s5 69 = σ 69 := FRk_row g1 (by omega) (by omega) (by omega) (by omega)
  have e70 : s5 70 = σ 70 := FRk_row g1 (by omega) (by omega) (by omega) (by omega)
  have e55 : s5 55 = σ 55 := FRk_row g1 (by omega) (by omega) (by omega) (by omega)
  have e56 : s5 56 = σ 56 := FRk_row g1 (by omega) (by omega) (by omega) (by omega)
  have e57 : s5 57 = σ 57 := FRk_row g1 (by omega) (by omega) (by omega) (by omega)
  have e58 : s5 58 = σ 58 := FRk_row g1 (by omega) (by omega) (by omega) (by omega)
  have e59 : s5 59 = σ 59 := FRk_row g1 (by omega) (by omega) (by omega) (by omega)
  have e62 : s5 62 = σ 62 := FRk_row g1 (by omega) (by omega) (by omega) (by omega)
  have e1 : ∀ b, b < 19 → s5 51 b = σ 51 b := fun b hb => g1.2 b (by omega)
  have e13 := e1 13 (by omega)
  have e4 := e1 4 (by omega)
  refine x_iconst 9 C dX12_leftOf_8 rfl ?_
  refine x_bipush 11 C dX12_leftOf_9 rfl rfl ?_
  refine x_callSe 14 C dX12_leftOf_11 rfl (c_X12_within (by omega) (by omega) (by omega)) tb_6_19 tb_6_20 tb_1_20 tb_6_21 (na := 3) (by decide +kernel) rfl ⟨by decide, by decide⟩ rfl (Nat.le_of_ble_eq_true rfl) rfl (fun r11 => ?_)
  have hc11 := clampF_in (v := z5) (show (0 : Int) ≤ 99 by decide)
  have hslp : clampF z5 0 99 = slpG X (cM σ) (σ 62 s) s := by rw [g3]; rfl
  rw [show (if z5 < 0 then 0 else if 99 < z5 then 99 else z5) = clampF z5 0 99 from rfl, hslp] at r11 ⊢
  rw [hslp] at hc11
  refine x_istore_n2 15 C dX12_leftOf_14 rfl rfl ?_
  refine x_aload_n 16 C dX12_leftOf_15 rfl rfl rfl ?_
  refine x_getr (j := 39) 19 C rfl (lt79 (by decide)) rfl rfl (by decide) inT12 tb_4_173 rfl dX12_leftOf_16 rfl ?_
  refine x_iload_n 20 C dX12_leftOf_19 rfl rfl rfl ?_
  refine x_iald 21 C rfl (lt79 (by decide)) dX12_leftOf_20 rfl (by omega) (by omega) (fun r20 => ?_)
  rw [hss, e69] at r20 ⊢
  refine x_istore_n3 22 C dX12_leftOf_21 rfl rfl ?_
  refine x_iload_n 23 C dX12_leftOf_22 rfl rfl rfl ?_
  refine x_iconst 24 C dX12_leftOf_23 rfl ?_
  refine x_icmp_ne 30 27 C dX12_leftOf_24 rfl rfl (by omega) (by omega) (fun h24 => ?_) (fun h24 => ?_)
  rotate_left
  · have hdn : d = none := by
      cases d with
      | none => rfl
      | some q => rw [h69] at h24; have : (q.1 : Int) = -1 := h24; omega
    refine x_iload_n 28 C dX12_leftOf_27 rfl rfl rfl ?_
    refine x_ineg 29 C dX12_leftOf_28 rfl ?_
    refine x_iret C T dX12_leftOf_29 ?_
    first
      | (refine PI_i (by omega) ⟨g1, g2, ?_⟩
         rw [hdn]
         show _ = 0 - _
         omega)
      | exact PI_i (by omega) ⟨FRk_trans g1 k1, k2, rfl⟩
  obtain ⟨q, rfl⟩ : ∃ q, d = some q := by
    cases d with
    | none => exact absurd h69 h24
    | some q => exact ⟨q, rfl⟩
  obtain ⟨hq1, hq2, hq3, hq4⟩ := h70 q rfl
  rw [show σ 69 s = (q.1 : Int) from h69]
  have hqq := hT.2.2.2.2 q.1
  refine x_aload_n 31 C dX12_leftOf_30 rfl rfl rfl ?_
  refine x_iload_n 32 C dX12_leftOf_31 rfl rfl rfl ?_
  refine x_aload_n 33 C dX12_leftOf_32 rfl rfl rfl ?_
  refine x_getr (j := 11) 36 C rfl (lt79 (by decide)) rfl rfl (by decide) inT12 tb_4_145 rfl dX12_leftOf_33 rfl ?_
  refine x_iload_n 37 C dX12_leftOf_36 rfl rfl rfl ?_
  skip
  refine x_iald 38 C rfl (lt79 (by decide)) dX12_leftOf_37 rfl (by omega) (by omega) (fun r37 => ?_)
  rw [Int.toNat_natCast, e58] at r37 ⊢
  refine x_aload_n 39 C dX12_leftOf_38 rfl rfl rfl ?_
  refine x_iconst 40 C dX12_leftOf_39 rfl ?_
  refine x_iload_n 41 C dX12_leftOf_40 rfl rfl rfl ?_
  refine x_iload_n 42 C dX12_leftOf_41 rfl rfl rfl ?_
  refine x_aload_n 43 C dX12_leftOf_42 rfl rfl rfl ?_
  refine x_getr (j := 40) 46 C rfl (lt79 (by decide)) rfl rfl (by decide) inT12 tb_4_174 rfl dX12_leftOf_43 rfl ?_
  refine x_iload_n 47 C dX12_leftOf_46 rfl rfl rfl ?_
  refine x_iald 48 C rfl (lt79 (by decide)) dX12_leftOf_47 rfl (by omega) (by omega) (fun r47 => ?_)
  rw [hss, e70, hq1] at r47 ⊢
  refine x_callVi 51 C dX12_leftOf_48 rfl (c_X12_says (X := X) (N := N) (w := 1) (s := (s : Int)) (t := (q.1 : Int)) (far := (q.2 : Int)) hW1.2.1 ⟨by rw [e4]; omega, hW1.2.2.1⟩ hW1.2.2.2 (by omega) hT1 (by omega) (by omega) (by omega)) rfl (lt79 (by decide)) rfl tb_5_219 tb_5_221 tb_0_58 tb_1_20 tb_5_222 (na := 4) (by decide +kernel) rfl ⟨by decide, by decide⟩ rfl (Nat.le_of_ble_eq_true rfl) rfl (fun z48 s48 hz48 hq48 hR48 => ?_)
  obtain ⟨k1, k2, k3⟩ := hq48
  rw [if_neg (show ¬ (1 : Int) = 2 by decide), if_neg (show ¬ (1 : Int) = 2 by decide), e62, e1 8 (by omega), e4, e55, e56, e57, e59, hss, Int.toNat_natCast] at k3
  have hT2 := KM_MI (KM_trans hK1 (FRk_KM k1)) hT
  refine x_bipush 53 C dX12_leftOf_51 rfl rfl ?_
  refine x_bipush 55 C dX12_leftOf_53 rfl rfl ?_
  refine x_callSe 58 C dX12_leftOf_55 rfl (c_X12_within (by omega) (by omega) (by omega)) tb_6_19 tb_6_20 tb_1_20 tb_6_21 (na := 3) (by decide +kernel) rfl ⟨by decide, by decide⟩ rfl (Nat.le_of_ble_eq_true rfl) rfl (fun r55 => ?_)
  have hc55 := clampF_in (v := z48) (show (-99 : Int) ≤ 99 by decide)
  rw [show (if z48 < -99 then -99 else if 99 < z48 then 99 else z48) = clampF z48 (-99) 99 from rfl] at r55 ⊢
  refine x_iadd 59 C dX12_leftOf_58 rfl ?_
  refine x_aload_n 60 C dX12_leftOf_59 rfl rfl rfl ?_
  refine x_getr (j := 40) 63 C rfl (lt79 (by decide)) rfl rfl (by decide) inT12 tb_4_174 rfl dX12_leftOf_60 rfl ?_
  refine x_iload_n 64 C dX12_leftOf_63 rfl rfl rfl ?_
  refine x_iald 65 C rfl (lt79 (by decide)) dX12_leftOf_64 rfl (by omega) (by omega) (fun r64 => ?_)
  rw [hss, show s48 70 s = (q.2 : Int) by rw [FRk_row k1 (by omega) (by omega) (by omega) (by omega), e70, hq1]] at r64 ⊢
  refine x_callVe 68 C dX12_leftOf_65 rfl (c_X12_worthBy (by omega) (by omega) (by omega) hT2) rfl (lt79 (by decide)) rfl tb_6_22 tb_6_24 tb_0_64 tb_1_20 tb_6_25 (na := 3) (by decide +kernel) rfl ⟨by decide, by decide⟩ rfl (Nat.le_of_ble_eq_true rfl) rfl (fun r65 => ?_)
  have f56 : s48 56 = σ 56 := (FRk_row k1 (by omega) (by omega) (by omega) (by omega)).trans e56
  have f59 : s48 59 = σ 59 := (FRk_row k1 (by omega) (by omega) (by omega) (by omega)).trans e59
  rw [f56, f59, Int.toNat_natCast] at r65 ⊢
  have hwr : worthF (σ 56 q.1) (σ 59 q.1) (σ 58 q.1 + clampF z48 (-99) 99) (q.2 : Int) = wrth X (cM σ) (σ 62 s) s q := by
    rw [k3]
    unfold wrth plc
    rw [cM_6 hq3]
    rfl
  rw [hwr] at r65 ⊢
  have hwi := wrth_in (X := X) (T := cM σ) (m := σ 62 s) (s := (s : Int)) (q := q) (TI_cM hT) (by omega)
  refine x_iload_n 69 C dX12_leftOf_68 rfl rfl rfl ?_
  refine x_isub 70 C dX12_leftOf_69 rfl ?_
  refine x_iret C T dX12_leftOf_70 ?_
  first
    | (refine PI_i (by omega) ⟨g1, g2, ?_⟩
       rw [hdn]
       show _ = 0 - _
       omega)
    | exact PI_i (by omega) ⟨FRk_trans g1 k1, k2, rfl⟩

set_option maxHeartbeats 4000000 in
set_option maxRecDepth 100000 in
theorem c_X12_allLeft {l : Launch} {G : Gt} {ρ : Nat → Nat} {tc : Nat} {cl : Nat → Nat} {σ : Sig} {X : Nat → RuT} {N : Nat} (hW : MW X N σ) (hD : HDm X σ σ) : MX l yX12_allLeft cX12_allLeft 3 (some .int) 55 1324 G (NN tc) ρ (shp tc cl) [.ref (ρ 51)] σ (PI (fun z σ' => FRk σ σ' ∧ KV X N σ' ∧ z = allT X (cM σ))) := by
  refine MX_of [some (.ref (ρ 51)), none, none] (by decide +kernel) rfl rfl (Nat.le_of_ble_eq_true rfl) ?_
  intro K hKl C T hRng
  subst hKl
  have hT := hW.1
  have h8 := hT.2.2.2.1
  have hb : ∀ s : Nat, -99 * (s : Int) ≤ sumN (leftT X (cM σ)) s ∧ sumN (leftT X (cM σ)) s ≤ 1000 * (s : Int) := by
    intro s
    have := sumN_in (f := leftT X (cM σ)) (a := -99) (b := 1000) (fun i => leftT_in (TI_cM hT)) s
    omega
  refine x_iconst 1 C dX12_allLeft_0 rfl ?_
  refine x_istore_n1 2 C dX12_allLeft_1 rfl rfl ?_
  refine x_iconst 3 C dX12_allLeft_2 rfl ?_
  refine x_istore_n2 4 C dX12_allLeft_3 rfl rfl ?_
  have L4 : ∀ (mz : Nat) (s : Nat) (y v : Int) (s1 : Sig), mz = 6 - s → ((s : Int) ≤ σ 51 18 ∧ y = s ∧ FRk σ s1 ∧ KV X N s1 ∧ v = sumN (leftT X (cM σ)) s) → Ex K G (NN tc) ρ (shp tc cl) 4 [some (.ref (ρ 51)), some (.int (iZ v)), some (.int (iZ y))] [] s1 := by
    intro mz
    induction mz using Nat.strongRecOn with
    | ind mz ih =>
      intro s y v s1 hmz hinv
      obtain ⟨hs, rfl, hK1, hV1, hv⟩ := hinv
      have hW1 := KM_MW (FRk_KM hK1) hV1 hW
      have e18 : s1 51 18 = σ 51 18 := hK1.2 18 (by omega)
      have e13 : s1 51 13 = σ 51 13 := hK1.2 13 (by omega)
      have e62 : s1 62 = σ 62 := FRk_row hK1 (by omega) (by omega) (by omega) (by omega)
      have e69 : s1 69 = σ 69 := FRk_row hK1 (by omega) (by omega) (by omega) (by omega)
      have e70 : s1 70 = σ 70 := FRk_row hK1 (by omega) (by omega) (by omega) (by omega)
      have ecM : cM s1 = cM σ := KM_cM (FRk_KM hK1)
      have hbs := hb s
      refine x_iload_n 5 C dX12_allLeft_4 rfl rfl rfl ?_
      refine x_aload_n 6 C dX12_allLeft_5 rfl rfl rfl ?_
      refine x_geti (j := 18) 9 C rfl (lt79 (by decide)) rfl rfl (by decide) inT12 tb_4_152 rfl dX12_allLeft_6 rfl (fun r6 => ?_)
      refine x_icmp_ge 26 12 C dX12_allLeft_9 rfl rfl (by omega) (by omega) (fun h9 => ?_) (fun h9 => ?_)
      · refine x_iload_n 27 C dX12_allLeft_26 rfl rfl rfl ?_
        refine x_iret C T dX12_allLeft_27 ?_
        exact PI_i (by omega) ⟨hK1, hV1, by rw [hv, show s = slN (cM σ) by rw [slN_M]; omega]; rfl⟩
      refine x_iload_n 13 C dX12_allLeft_12 rfl rfl rfl ?_
      refine x_aload_n 14 C dX12_allLeft_13 rfl rfl rfl ?_
      refine x_iload_n 15 C dX12_allLeft_14 rfl rfl rfl ?_
      refine x_callVi 18 C dX12_allLeft_15 rfl (c_X12_leftOf (X := X) (N := N) (s := s) (d := hadT X (cM σ) s) hW1 (by omega) (by rw [e69]; exact (hD s (by omega)).1) (by rw [e70, e13]; exact HDm_q hT hD (by omega))) rfl (lt79 (by decide)) rfl tb_6_15 tb_6_17 tb_0_63 tb_1_20 tb_6_18 (na := 1) (by decide +kernel) rfl ⟨by decide, by decide⟩ rfl (Nat.le_of_ble_eq_true rfl) rfl (fun z15 s15 hz15 hq15 hR15 => ?_)
      obtain ⟨k1, k2, k3⟩ := hq15
      rw [ecM, e62] at k3
      have hli := leftT_in (X := X) (T := cM σ) (s := s) (TI_cM hT)
      have hzl : z15 = leftT X (cM σ) s := k3
      refine x_iadd 19 C dX12_allLeft_18 rfl ?_
      refine x_istore_n1 20 C dX12_allLeft_19 rfl rfl ?_
      refine x_iinc_2 23 C dX12_allLeft_20 rfl rfl ?_
      refine x_goto 4 C dX12_allLeft_23 rfl ?_
      exact ih _ (by omega) (s + 1) _ _ _ rfl ⟨by omega, by omega, FRk_trans hK1 k1, k2, by rw [hv, k3]; rfl⟩
  exact L4 _ 0 _ _ _ rfl ⟨by omega, rfl, FRk_refl σ, hW.2.2.2, rfl⟩

set_option maxHeartbeats 4000000 in
set_option maxRecDepth 100000 in
theorem c_X12_seen {l : Launch} {G : Gt} {ρ : Nat → Nat} {tc : Nat} {cl : Nat → Nat} {σ : Sig} {X : Nat → RuT} {N : Nat} {v i : Int} (hW : MW X N σ) (hv : -2147483648 ≤ v ∧ v ≤ 2147483647) (hi : -2147483648 ≤ i ∧ i ≤ 2147483647) : MX l yX12_seen cX12_seen 3 (some .int) 55 1327 G (NN tc) ρ (shp tc cl) [.ref (ρ 51), .int (iZ v), .int (iZ i)] σ (PI (fun z σ' => KM σ σ' ∧ KV X N σ' ∧ z = rSeen X (cM σ) v i)) := by
  refine MX_of [some (.ref (ρ 51)), some (.int (iZ v)), some (.int (iZ i))] (by decide +kernel) rfl rfl (Nat.le_of_ble_eq_true rfl) ?_
  intro K hKl C T hRng
  subst hKl
  have hT := hW.1
  have h3 := hT.2.2.1
  have h8 := hT.2.2.2.1
  refine x_aload_n 1 C dX12_seen_0 rfl rfl rfl ?_
  refine x_iload_n 2 C dX12_seen_1 rfl rfl rfl ?_
  refine x_callVe 5 C dX12_seen_2 rfl (c_X12_isOne (by omega) hT) rfl (lt79 (by decide)) rfl tb_5_101 tb_5_103 tb_0_38 tb_1_20 tb_5_104 (na := 1) (by decide +kernel) rfl ⟨by decide, by decide⟩ rfl (Nat.le_of_ble_eq_true rfl) rfl (fun r2 => ?_)
  first
    | refine x_ifb_eq 20 8 C dX12_seen_5 rfl rfl (fun h5 => ?_) (fun h5 => ?_)
    | refine x_if_eq 20 8 C dX12_seen_5 rfl rfl (by omega) (fun h5 => ?_) (fun h5 => ?_)
  · refine x_bipush 22 C dX12_seen_20 rfl rfl ?_
    refine x_iret C T dX12_seen_22 ?_
    refine PI_i (by omega) ⟨?_, ?_, ?_⟩
    · first | exact KM_refl σ | exact k1
    · first | exact hW.2.2.2 | exact k2
    · unfold rSeen
      first
        | (rw [if_neg (by rw [cM_18]; omega)]; done)
        | (rw [if_pos (by rw [cM_18]; omega), Int.toNat_natCast, Int.toNat_natCast, hq1]; rfl)
        | (rw [if_pos (by rw [cM_18]; omega), Int.toNat_natCast, Int.toNat_natCast, List.getElem?_eq_none (by omega)]; rfl)
  refine x_iload_n 9 C dX12_seen_8 rfl rfl rfl ?_
  refine x_i2l 10 C dX12_seen_9 rfl (by omega) ?_
  refine x_lconst 11 C dX12_seen_10 rfl 0 rfl ?_
  refine x_ldc2 (z := 5) 14 C tb_5_85 dX12_seen_11 rfl ?_
  refine x_callSe 17 C dX12_seen_14 rfl (c_X12_in (by omega) (by omega) (by omega)) tb_5_69 tb_5_70 tb_1_20 tb_5_71 (na := 3) (by decide +kernel) rfl ⟨by decide, by decide⟩ rfl (Nat.le_of_ble_eq_true rfl) rfl (fun r14 => ?_)
  first
    | refine x_ifb_ne 23 20 C dX12_seen_17 rfl rfl (fun h17 => ?_) (fun h17 => ?_)
    | refine x_if_ne 23 20 C dX12_seen_17 rfl rfl (by omega) (fun h17 => ?_) (fun h17 => ?_)
  rotate_left
  · refine x_bipush 22 C dX12_seen_20 rfl rfl ?_
    refine x_iret C T dX12_seen_22 ?_
    refine PI_i (by omega) ⟨?_, ?_, ?_⟩
    · first | exact KM_refl σ | exact k1
    · first | exact hW.2.2.2 | exact k2
    · unfold rSeen
      first
        | (rw [if_neg (by rw [cM_18]; omega)]; done)
        | (rw [if_pos (by rw [cM_18]; omega), Int.toNat_natCast, Int.toNat_natCast, hq1]; rfl)
        | (rw [if_pos (by rw [cM_18]; omega), Int.toNat_natCast, Int.toNat_natCast, List.getElem?_eq_none (by omega)]; rfl)
  obtain ⟨s, rfl⟩ : ∃ s : Nat, v = (s : Int) := ⟨v.toNat, by omega⟩
  have hss : (s : Int).toNat = s := Int.toNat_natCast s
  obtain ⟨j, rfl⟩ : ∃ j : Nat, i = (j : Int) := ⟨i.toNat, by omega⟩
  refine x_aload_n 24 C dX12_seen_23 rfl rfl rfl ?_
  refine x_iload_n 25 C dX12_seen_24 rfl rfl rfl ?_
  refine x_callVv 28 C dX12_seen_25 rfl (c_X12_looks (X := X) (N := N) (s := s) hW (by omega)) rfl (lt79 (by decide)) rfl tb_5_208 tb_5_210 tb_0_56 tb_1_20 tb_5_211 (na := 1) (by decide +kernel) rfl ⟨by decide, by decide⟩ rfl (Nat.le_of_ble_eq_true rfl) rfl (fun s25 hq25 hR25 => ?_)
  obtain ⟨k1, k2, k3, k4, k5⟩ := hq25
  have hle := seenM_le (X := X) hT s
  refine x_iload_n 29 C dX12_seen_28 rfl rfl rfl ?_
  refine x_aload_n 30 C dX12_seen_29 rfl rfl rfl ?_
  refine x_getr (j := 38) 33 C rfl (lt79 (by decide)) rfl rfl (by decide) inT12 tb_4_172 rfl dX12_seen_30 rfl ?_
  refine x_iload_n 34 C dX12_seen_33 rfl rfl rfl ?_
  refine x_iald 35 C rfl (lt79 (by decide)) dX12_seen_34 rfl (by omega) (by omega) (fun r34 => ?_)
  rw [hss, k4] at r34 ⊢
  refine x_icmp_ge 52 38 C dX12_seen_35 rfl rfl (by omega) (by omega) (fun h35 => ?_) (fun h35 => ?_)
  · refine x_iconst 53 C dX12_seen_52 rfl ?_
    refine x_iret C T dX12_seen_53 ?_
    refine PI_i (by omega) ⟨?_, ?_, ?_⟩
    · first | exact KM_refl σ | exact k1
    · first | exact hW.2.2.2 | exact k2
    · unfold rSeen
      first
        | (rw [if_neg (by rw [cM_18]; omega)]; done)
        | (rw [if_pos (by rw [cM_18]; omega), Int.toNat_natCast, Int.toNat_natCast, hq1]; rfl)
        | (rw [if_pos (by rw [cM_18]; omega), Int.toNat_natCast, Int.toNat_natCast, List.getElem?_eq_none (by omega)]; rfl)
  refine x_aload_n 39 C dX12_seen_38 rfl rfl rfl ?_
  refine x_getr (j := 36) 42 C rfl (lt79 (by decide)) rfl rfl (by decide) inT12 tb_4_170 rfl dX12_seen_39 rfl ?_
  refine x_bipush 44 C dX12_seen_42 rfl rfl ?_
  refine x_iload_n 45 C dX12_seen_44 rfl rfl rfl ?_
  refine x_imul 46 C dX12_seen_45 rfl ?_
  refine x_iload_n 47 C dX12_seen_46 rfl rfl rfl ?_
  refine x_iadd 48 C dX12_seen_47 rfl ?_
  refine x_iald 49 C rfl (lt79 (by decide)) dX12_seen_48 rfl (by omega) (by omega) (fun r48 => ?_)
  obtain ⟨q, hq1⟩ : ∃ q, (seenT X (cM σ) s)[j]? = some q := ⟨_, List.getElem?_eq_getElem (by omega)⟩
  rw [show (6 * (s : Int) + (j : Int)).toNat = 6 * s + j by omega, (k5 j q hq1).1] at r48 ⊢
  refine x_goto 53 C dX12_seen_49 rfl ?_
  refine x_iret C T dX12_seen_53 ?_
  refine PI_i (by omega) ⟨?_, ?_, ?_⟩
  · first | exact KM_refl σ | exact k1
  · first | exact hW.2.2.2 | exact k2
  · unfold rSeen
    first
      | (rw [if_neg (by rw [cM_18]; omega)]; done)
      | (rw [if_pos (by rw [cM_18]; omega), Int.toNat_natCast, Int.toNat_natCast, hq1]; rfl)
      | (rw [if_pos (by rw [cM_18]; omega), Int.toNat_natCast, Int.toNat_natCast, List.getElem?_eq_none (by omega)]; rfl)

set_option maxHeartbeats 4000000 in
set_option maxRecDepth 100000 in
theorem c_X12_has {l : Launch} {G : Gt} {ρ : Nat → Nat} {tc : Nat} {cl : Nat → Nat} {σ : Sig} {X : Nat → RuT} {N : Nat} {v : Int} (hW : MW X N σ) (hv : -2147483648 ≤ v ∧ v ≤ 2147483647) : MX l yX12_has cX12_has 2 (some .int) 56 1353 G (NN tc) ρ (shp tc cl) [.ref (ρ 51), .int (iZ v)] σ (PI (fun z σ' => KM σ σ' ∧ KV X N σ' ∧ z = rHas X (cM σ) v)) := by
  refine MX_of [some (.ref (ρ 51)), some (.int (iZ v))] (by decide +kernel) rfl rfl (Nat.le_of_ble_eq_true rfl) ?_
  intro K hKl C T hRng
  subst hKl
  have hT := hW.1
  have h3 := hT.2.2.1
  have h8 := hT.2.2.2.1
  refine x_aload_n 1 C dX12_has_0 rfl rfl rfl ?_
  refine x_iload_n 2 C dX12_has_1 rfl rfl rfl ?_
  refine x_callVe 5 C dX12_has_2 rfl (c_X12_isOne (by omega) hT) rfl (lt79 (by decide)) rfl tb_5_101 tb_5_103 tb_0_38 tb_1_20 tb_5_104 (na := 1) (by decide +kernel) rfl ⟨by decide, by decide⟩ rfl (Nat.le_of_ble_eq_true rfl) rfl (fun r2 => ?_)
  first
    | refine x_ifb_ne 11 8 C dX12_has_5 rfl rfl (fun h5 => ?_) (fun h5 => ?_)
    | refine x_if_ne 11 8 C dX12_has_5 rfl rfl (by omega) (fun h5 => ?_) (fun h5 => ?_)
  · obtain ⟨s, rfl⟩ : ∃ s : Nat, v = (s : Int) := ⟨v.toNat, by omega⟩
    have hss : (s : Int).toNat = s := Int.toNat_natCast s
    refine x_aload_n 12 C dX12_has_11 rfl rfl rfl ?_
    refine x_callVv 15 C dX12_has_12 rfl (c_X12_morning (X := X) (N := N) hW) rfl (lt79 (by decide)) rfl tb_5_234 tb_5_236 tb_0_60 tb_1_20 tb_5_237 (na := 0) (by decide +kernel) rfl ⟨by decide, by decide⟩ rfl (Nat.le_of_ble_eq_true rfl) rfl (fun s12 hq12 hR12 => ?_)
    obtain ⟨k1, k2, k3, k4⟩ := hq12
    have hW2 := KM_MW k1 k2 hW
    have e18 : s12 51 18 = σ 51 18 := k1.2 18 (by omega)
    have e13 : s12 51 13 = σ 51 13 := k1.2 13 (by omega)
    have e62 : s12 62 = σ 62 := KM_row k1 (by omega) (by omega) (by omega) (by omega)
    have ecM : cM s12 = cM σ := KM_cM k1
    refine x_aload_n 16 C dX12_has_15 rfl rfl rfl ?_
    refine x_getr (j := 39) 19 C rfl (lt79 (by decide)) rfl rfl (by decide) inT12 tb_4_173 rfl dX12_has_16 rfl ?_
    refine x_iload_n 20 C dX12_has_19 rfl rfl rfl ?_
    refine x_iald 21 C rfl (lt79 (by decide)) dX12_has_20 rfl (by omega) (by omega) (fun r20 => ?_)
    rw [hss] at r20 ⊢
    refine x_iret C T dX12_has_21 ?_
    refine PI_i (by omega) ⟨?_, ?_, ?_⟩
    · first | exact KM_refl σ | exact k1
    · first | exact hW.2.2.2 | exact k2
    · unfold rHas
      first
        | (rw [if_neg (by rw [cM_18]; omega)]; done)
        | (rw [if_pos (by rw [cM_18]; omega), hss]; exact (k4 s (by omega)).1)
  refine x_bipush 10 C dX12_has_8 rfl rfl ?_
  refine x_iret C T dX12_has_10 ?_
  refine PI_i (by omega) ⟨?_, ?_, ?_⟩
  · first | exact KM_refl σ | exact k1
  · first | exact hW.2.2.2 | exact k2
  · unfold rHas
    first
      | (rw [if_neg (by rw [cM_18]; omega)]; done)
      | (rw [if_pos (by rw [cM_18]; omega), hss]; exact (k4 s (by omega)).1)

set_option maxHeartbeats 4000000 in
set_option maxRecDepth 100000 in
theorem c_X12_whose {l : Launch} {G : Gt} {ρ : Nat → Nat} {tc : Nat} {cl : Nat → Nat} {σ : Sig} {X : Nat → RuT} {N : Nat} {v : Int} (hW : MW X N σ) (hv : -2147483648 ≤ v ∧ v ≤ 2147483647) : MX l yX12_whose cX12_whose 3 (some .int) 56 1353 G (NN tc) ρ (shp tc cl) [.ref (ρ 51), .int (iZ v)] σ (PI (fun z σ' => KM σ σ' ∧ KV X N σ' ∧ z = rWhose X (cM σ) v)) := by
  refine MX_of [some (.ref (ρ 51)), some (.int (iZ v)), none] (by decide +kernel) rfl rfl (Nat.le_of_ble_eq_true rfl) ?_
  intro K hKl C T hRng
  subst hKl
  have hT := hW.1
  have h3 := hT.2.2.1
  have h8 := hT.2.2.2.1
  refine x_aload_n 1 C dX12_whose_0 rfl rfl rfl ?_
  refine x_iload_n 2 C dX12_whose_1 rfl rfl rfl ?_
  refine x_callVe 5 C dX12_whose_2 rfl (c_X12_isThing (by omega) hT) rfl (lt79 (by decide)) rfl tb_5_97 tb_5_99 tb_0_37 tb_1_20 tb_5_100 (na := 1) (by decide +kernel) rfl ⟨by decide, by decide⟩ rfl (Nat.le_of_ble_eq_true rfl) rfl (fun r2 => ?_)
  first
    | refine x_ifb_ne 11 8 C dX12_whose_5 rfl rfl (fun h5 => ?_) (fun h5 => ?_)
    | refine x_if_ne 11 8 C dX12_whose_5 rfl rfl (by omega) (fun h5 => ?_) (fun h5 => ?_)
  · refine x_aload_n 12 C dX12_whose_11 rfl rfl rfl ?_
    refine x_callVv 15 C dX12_whose_12 rfl (c_X12_morning (X := X) (N := N) hW) rfl (lt79 (by decide)) rfl tb_5_234 tb_5_236 tb_0_60 tb_1_20 tb_5_237 (na := 0) (by decide +kernel) rfl ⟨by decide, by decide⟩ rfl (Nat.le_of_ble_eq_true rfl) rfl (fun s12 hq12 hR12 => ?_)
    obtain ⟨k1, k2, k3, k4⟩ := hq12
    have hW2 := KM_MW k1 k2 hW
    have e18 : s12 51 18 = σ 51 18 := k1.2 18 (by omega)
    have e13 : s12 51 13 = σ 51 13 := k1.2 13 (by omega)
    have e62 : s12 62 = σ 62 := KM_row k1 (by omega) (by omega) (by omega) (by omega)
    have ecM : cM s12 = cM σ := KM_cM k1
    refine x_iconst 16 C dX12_whose_15 rfl ?_
    refine x_istore_n2 17 C dX12_whose_16 rfl rfl ?_
    have L17 : ∀ (mz : Nat) (s : Nat) (y : Int), mz = 6 - s → ((s : Int) ≤ σ 51 18 ∧ y = s ∧ fstA (fun s => decide (hasI (hadT X (cM σ) s) = v)) (slN (cM σ) - s) s = fstF (fun s => decide (hasI (hadT X (cM σ) s) = v)) (slN (cM σ))) → Ex K G (NN tc) ρ (shp tc cl) 17 [some (.ref (ρ 51)), some (.int (iZ v)), some (.int (iZ y))] [] s12 := by
      intro mz
      induction mz using Nat.strongRecOn with
      | ind mz ih =>
        intro s y hmz hinv
        obtain ⟨hs, rfl, hf⟩ := hinv
        have hss : (s : Int).toNat = s := Int.toNat_natCast s
        have hsl := slN_M (σ := σ)
        refine x_iload_n 18 C dX12_whose_17 rfl rfl rfl ?_
        refine x_aload_n 19 C dX12_whose_18 rfl rfl rfl ?_
        refine x_geti (j := 18) 22 C rfl (lt79 (by decide)) rfl rfl (by decide) inT12 tb_4_152 rfl dX12_whose_19 rfl (fun r19 => ?_)
        refine x_icmp_ge 43 25 C dX12_whose_22 rfl rfl (by omega) (by omega) (fun h22 => ?_) (fun h22 => ?_)
        · refine x_iconst 44 C dX12_whose_43 rfl ?_
          refine x_iret C T dX12_whose_44 ?_
          refine PI_i (by omega) ⟨?_, ?_, ?_⟩
          · first | exact KM_refl σ | exact k1
          · first | exact hW.2.2.2 | exact k2
          · unfold rWhose
            first
              | (rw [if_neg (by rw [cM_13]; omega)]; done)
              | (rw [if_pos (by rw [cM_13]; omega), ← hf]
                 first
                   | (rw [hcons]
                      simp only [fstA]
                      rw [if_pos (by rw [decide_eq_true_eq, ← (k4 s (by omega)).1]; exact h32)])
                   | (rw [show slN (cM σ) - s = 0 by omega]; rfl))
        refine x_aload_n 26 C dX12_whose_25 rfl rfl rfl ?_
        refine x_getr (j := 39) 29 C rfl (lt79 (by decide)) rfl rfl (by decide) inT12 tb_4_173 rfl dX12_whose_26 rfl ?_
        refine x_iload_n 30 C dX12_whose_29 rfl rfl rfl ?_
        refine x_iald 31 C rfl (lt79 (by decide)) dX12_whose_30 rfl (by omega) (by omega) (fun r30 => ?_)
        rw [hss] at r30 ⊢
        have hcons : slN (cM σ) - s = (slN (cM σ) - (s + 1)) + 1 := by omega
        refine x_iload_n 32 C dX12_whose_31 rfl rfl rfl ?_
        refine x_icmp_ne 37 35 C dX12_whose_32 rfl rfl (by omega) (by omega) (fun h32 => ?_) (fun h32 => ?_)
        · refine x_iinc_2 40 C dX12_whose_37 rfl rfl ?_
          refine x_goto 17 C dX12_whose_40 rfl ?_
          refine ih _ (by omega) (s + 1) _ rfl ⟨by omega, by omega, ?_⟩
          rw [hcons] at hf
          simp only [fstA] at hf
          rw [if_neg (by rw [decide_eq_true_eq, ← (k4 s (by omega)).1]; exact h32)] at hf
          exact hf
        refine x_iload_n 36 C dX12_whose_35 rfl rfl rfl ?_
        refine x_iret C T dX12_whose_36 ?_
        refine PI_i (by omega) ⟨?_, ?_, ?_⟩
        · first | exact KM_refl σ | exact k1
        · first | exact hW.2.2.2 | exact k2
        · unfold rWhose
          first
            | (rw [if_neg (by rw [cM_13]; omega)]; done)
            | (rw [if_pos (by rw [cM_13]; omega), ← hf]
               first
                 | (rw [hcons]
                    simp only [fstA]
                    rw [if_pos (by rw [decide_eq_true_eq, ← (k4 s (by omega)).1]; exact h32)])
                 | (rw [show slN (cM σ) - s = 0 by omega]; rfl))
    exact L17 _ 0 _ rfl ⟨by omega, rfl, rfl⟩
  refine x_bipush 10 C dX12_whose_8 rfl rfl ?_
  refine x_iret C T dX12_whose_10 ?_
  refine PI_i (by omega) ⟨?_, ?_, ?_⟩
  · first | exact KM_refl σ | exact k1
  · first | exact hW.2.2.2 | exact k2
  · unfold rWhose
    first
      | (rw [if_neg (by rw [cM_13]; omega)]; done)
      | (rw [if_pos (by rw [cM_13]; omega), ← hf]
         first
           | (rw [hcons]
              simp only [fstA]
              rw [if_pos (by rw [decide_eq_true_eq, ← (k4 s (by omega)).1]; exact h32)])
           | (rw [show slN (cM σ) - s = 0 by omega]; rfl))

set_option maxHeartbeats 4000000 in
set_option maxRecDepth 100000 in
theorem c_X12_left {l : Launch} {G : Gt} {ρ : Nat → Nat} {tc : Nat} {cl : Nat → Nat} {σ : Sig} {X : Nat → RuT} {N : Nat} {v : Int} (hW : MW X N σ) (hv : -2147483648 ≤ v ∧ v ≤ 2147483647) : MX l yX12_left cX12_left 2 (some .int) 56 1353 G (NN tc) ρ (shp tc cl) [.ref (ρ 51), .int (iZ v)] σ (PI (fun z σ' => KM σ σ' ∧ KV X N σ' ∧ z = rLeft X (cM σ) v)) := by
  refine MX_of [some (.ref (ρ 51)), some (.int (iZ v))] (by decide +kernel) rfl rfl (Nat.le_of_ble_eq_true rfl) ?_
  intro K hKl C T hRng
  subst hKl
  have hT := hW.1
  have h3 := hT.2.2.1
  have h8 := hT.2.2.2.1
  have hall := allT_in (X := X) (TI_cM hT)
  have J17 : ∀ (u : Unit), (v = -1 ∨ (0 ≤ v ∧ v < σ 51 18)) → Ex K G (NN tc) ρ (shp tc cl) 17 [some (.ref (ρ 51)), some (.int (iZ v))] [] σ := by
    intro u hinv
    have hvv := hinv
    refine x_aload_n 18 C dX12_left_17 rfl rfl rfl ?_
    refine x_callVv 21 C dX12_left_18 rfl (c_X12_morning (X := X) (N := N) hW) rfl (lt79 (by decide)) rfl tb_5_234 tb_5_236 tb_0_60 tb_1_20 tb_5_237 (na := 0) (by decide +kernel) rfl ⟨by decide, by decide⟩ rfl (Nat.le_of_ble_eq_true rfl) rfl (fun s18 hq18 hR18 => ?_)
    obtain ⟨k1, k2, k3, k4⟩ := hq18
    have hW2 := KM_MW k1 k2 hW
    have e18 : s18 51 18 = σ 51 18 := k1.2 18 (by omega)
    have e13 : s18 51 13 = σ 51 13 := k1.2 13 (by omega)
    have e62 : s18 62 = σ 62 := KM_row k1 (by omega) (by omega) (by omega) (by omega)
    have ecM : cM s18 = cM σ := KM_cM k1
    refine x_iload_n 22 C dX12_left_21 rfl rfl rfl ?_
    refine x_iconst 23 C dX12_left_22 rfl ?_
    refine x_icmp_ne 33 26 C dX12_left_23 rfl rfl (by omega) (by omega) (fun h23 => ?_) (fun h23 => ?_)
    · obtain ⟨s, rfl⟩ : ∃ s : Nat, v = (s : Int) := ⟨v.toNat, by omega⟩
      have hss : (s : Int).toNat = s := Int.toNat_natCast s
      refine x_aload_n 34 C dX12_left_33 rfl rfl rfl ?_
      refine x_iload_n 35 C dX12_left_34 rfl rfl rfl ?_
      refine x_callVi 38 C dX12_left_35 rfl (c_X12_leftOf (X := X) (N := N) (s := s) (d := hadT X (cM σ) s) hW2 (by omega) (k4 s (by omega)).1 (by rw [e13]; exact HDm_q hT k4 (by omega))) rfl (lt79 (by decide)) rfl tb_6_15 tb_6_17 tb_0_63 tb_1_20 tb_6_18 (na := 1) (by decide +kernel) rfl ⟨by decide, by decide⟩ rfl (Nat.le_of_ble_eq_true rfl) rfl (fun z35 s35 hz35 hq35 hR35 => ?_)
      obtain ⟨k5, k6, k7⟩ := hq35
      rw [ecM, e62] at k7
      refine x_iret C T dX12_left_38 ?_
      refine PI_i (by omega) ⟨?_, ?_, ?_⟩
      · first | exact KM_refl σ | exact KM_trans k1 (FRk_KM k5)
      · first | exact hW.2.2.2 | exact k6
      · unfold rLeft
        first
          | (rw [if_neg (by omega), if_neg (by rw [cM_18]; omega)]; done)
          | (rw [if_pos (by omega)]; exact k7)
          | (rw [if_neg (by omega), if_pos (by rw [cM_18]; omega), hss]; exact k7)
    refine x_aload_n 27 C dX12_left_26 rfl rfl rfl ?_
    refine x_callVi 30 C dX12_left_27 rfl (c_X12_allLeft (X := X) (N := N) hW2 (HDm_self k4 k1)) rfl (lt79 (by decide)) rfl tb_6_11 tb_6_13 tb_0_62 tb_1_20 tb_6_14 (na := 0) (by decide +kernel) rfl ⟨by decide, by decide⟩ rfl (Nat.le_of_ble_eq_true rfl) rfl (fun z27 s27 hz27 hq27 hR27 => ?_)
    obtain ⟨k5, k6, k7⟩ := hq27
    rw [ecM] at k7
    refine x_goto 38 C dX12_left_30 rfl ?_
    refine x_iret C T dX12_left_38 ?_
    refine PI_i (by omega) ⟨?_, ?_, ?_⟩
    · first | exact KM_refl σ | exact KM_trans k1 (FRk_KM k5)
    · first | exact hW.2.2.2 | exact k6
    · unfold rLeft
      first
        | (rw [if_neg (by omega), if_neg (by rw [cM_18]; omega)]; done)
        | (rw [if_pos (by omega)]; exact k7)
        | (rw [if_neg (by omega), if_pos (by rw [cM_18]; omega), hss]; exact k7)
  refine x_iload_n 1 C dX12_left_0 rfl rfl rfl ?_
  refine x_iconst 2 C dX12_left_1 rfl ?_
  refine x_icmp_eq 17 5 C dX12_left_2 rfl rfl (by omega) (by omega) (fun h2 => ?_) (fun h2 => ?_)
  · exact J17 () (by omega)
  refine x_aload_n 6 C dX12_left_5 rfl rfl rfl ?_
  refine x_iload_n 7 C dX12_left_6 rfl rfl rfl ?_
  refine x_callVe 10 C dX12_left_7 rfl (c_X12_isOne (by omega) hT) rfl (lt79 (by decide)) rfl tb_5_101 tb_5_103 tb_0_38 tb_1_20 tb_5_104 (na := 1) (by decide +kernel) rfl ⟨by decide, by decide⟩ rfl (Nat.le_of_ble_eq_true rfl) rfl (fun r7 => ?_)
  first
    | refine x_ifb_ne 17 13 C dX12_left_10 rfl rfl (fun h10 => ?_) (fun h10 => ?_)
    | refine x_if_ne 17 13 C dX12_left_10 rfl rfl (by omega) (fun h10 => ?_) (fun h10 => ?_)
  · exact J17 () (by omega)
  refine x_ldcwN (z := -100000) 16 C tb_6_10 (by decide) dX12_left_13 rfl ?_
  refine x_iret C T dX12_left_16 ?_
  refine PI_i (by omega) ⟨?_, ?_, ?_⟩
  · first | exact KM_refl σ | exact KM_trans k1 (FRk_KM k5)
  · first | exact hW.2.2.2 | exact k6
  · unfold rLeft
    first
      | (rw [if_neg (by omega), if_neg (by rw [cM_18]; omega)]; done)
      | (rw [if_pos (by omega)]; exact k7)
      | (rw [if_neg (by omega), if_pos (by rw [cM_18]; omega), hss]; exact k7)
