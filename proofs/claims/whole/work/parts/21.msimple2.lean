theorem tdiv2_in {v : Int} (h : -99 ≤ v ∧ v ≤ 198) : -99 ≤ v.tdiv 2 ∧ v.tdiv 2 ≤ 99 := by
  rcases Int.le_total 0 v with h0 | h0
  · rw [Int.tdiv_eq_ediv_of_nonneg h0]; omega
  · rw [show v.tdiv 2 = -((-v) / 2) by rw [← Int.tdiv_eq_ediv_of_nonneg (show 0 ≤ -v by omega), Int.neg_tdiv, Int.neg_neg]]; omega
theorem worthK_in {k n v f : Int} (hn : 0 ≤ n ∧ n ≤ 9) (hv : -99 ≤ v ∧ v ≤ 198) (hf : 0 ≤ f ∧ f ≤ 9) : -300 ≤ worthK k n v f ∧ worthK k n v f ≤ 500 := by
  have := tdiv2_in hv
  unfold worthK
  (repeat' split) <;> omega
set_option maxHeartbeats 4000000 in
set_option maxRecDepth 100000 in
theorem c_X12_worthBy {l : Launch} {G : Gt} {ρ : Nat → Nat} {tc : Nat} {cl : Nat → Nat} {σ : Sig} {t v f : Int} (ht : 0 ≤ t ∧ t < 6) (hv : -99 ≤ v ∧ v ≤ 198) (hf : 0 ≤ f ∧ f ≤ 9) (hT : MI σ) : MX l yX12_worthBy cX12_worthBy 6 (some .int) 0 0 G (NN tc) ρ (shp tc cl) [.ref (ρ 51), .int (iZ t), .int (iZ v), .int (iZ f)] σ (PE σ (worthF (σ 56 t.toNat) (σ 59 t.toNat) v f)) := by
  refine MX_of [some (.ref (ρ 51)), some (.int (iZ t)), some (.int (iZ v)), some (.int (iZ f)), none, none] (by decide +kernel) rfl rfl (Nat.le_of_ble_eq_true rfl) ?_
  intro K hKl C T hRng
  subst hKl
  have hq := hT.2.2.2.2 t.toNat
  have htd := tdiv2_in hv
  have hk := worthK_in (k := σ 56 t.toNat) (n := σ 59 t.toNat) (v := v) (f := f) (by omega) hv hf
  refine x_aload_n 1 C dX12_worthBy_0 rfl rfl rfl ?_
  refine x_getr (j := 9) 4 C rfl (lt79 (by decide)) rfl rfl (by decide) inT12 tb_4_143 rfl dX12_worthBy_1 rfl ?_
  refine x_iload_n 5 C dX12_worthBy_4 rfl rfl rfl ?_
  refine x_iald 6 C rfl (lt79 (by decide)) dX12_worthBy_5 rfl (by omega) (by omega) (fun r5 => ?_)
  refine x_istore_4 8 C dX12_worthBy_6 rfl rfl ?_
  refine x_iload_n 9 C dX12_worthBy_8 rfl rfl rfl ?_
  refine x_istore_5 11 C dX12_worthBy_9 rfl rfl ?_
  have J75 : ∀ (w : Int), ((σ 56 t.toNat = 1 → w = v + f) ∧ (σ 56 t.toNat = 3 → w = 2 * (v + f)) ∧ (σ 56 t.toNat = 2 → w = v.tdiv 2) ∧ (σ 56 t.toNat = 4 → w = v.tdiv 2 + σ 59 t.toNat) ∧ (σ 56 t.toNat = 5 → w = v - f) ∧ (σ 56 t.toNat ≠ 1 ∧ σ 56 t.toNat ≠ 3 ∧ σ 56 t.toNat ≠ 2 ∧ σ 56 t.toNat ≠ 4 ∧ σ 56 t.toNat ≠ 5 → w = v)) → Ex K G (NN tc) ρ (shp tc cl) 75 [some (.ref (ρ 51)), some (.int (iZ t)), some (.int (iZ v)), some (.int (iZ f)), some (.int (iZ (σ 56 t.toNat))), some (.int (iZ w))] [] σ := by
    intro w hinv
    have hw : worthK (σ 56 t.toNat) (σ 59 t.toNat) v f = w := by unfold worthK; (repeat' split) <;> omega
    have hwr : -300 ≤ w ∧ w ≤ 500 := by rw [← hw]; exact hk
    refine x_iload 77 C dX12_worthBy_75 rfl rfl ?_
    refine x_if_ge 84 80 C dX12_worthBy_77 rfl rfl (by omega) (fun h77 => ?_) (fun h77 => ?_)
    · refine x_iload 86 C dX12_worthBy_84 rfl rfl ?_
      refine x_iret C T dX12_worthBy_86 ?_
      refine PE_i ?_ (by omega)
      unfold worthF
      rw [hw]
      first | rw [if_pos (by omega)] | rw [if_neg (by omega)]
    refine x_iconst 81 C dX12_worthBy_80 rfl ?_
    refine x_goto 86 C dX12_worthBy_81 rfl ?_
    refine x_iret C T dX12_worthBy_86 ?_
    refine PE_i ?_ (by omega)
    unfold worthF
    rw [hw]
    first | rw [if_pos (by omega)] | rw [if_neg (by omega)]
  have J64 : ∀ (w : Int), ((σ 56 t.toNat = 1 → w = v + f) ∧ (σ 56 t.toNat = 3 → w = 2 * (v + f)) ∧ (σ 56 t.toNat = 2 → w = v.tdiv 2) ∧ (σ 56 t.toNat = 4 → w = v.tdiv 2 + σ 59 t.toNat) ∧ (σ 56 t.toNat ≠ 1 ∧ σ 56 t.toNat ≠ 3 ∧ σ 56 t.toNat ≠ 2 ∧ σ 56 t.toNat ≠ 4 → w = v)) → Ex K G (NN tc) ρ (shp tc cl) 64 [some (.ref (ρ 51)), some (.int (iZ t)), some (.int (iZ v)), some (.int (iZ f)), some (.int (iZ (σ 56 t.toNat))), some (.int (iZ w))] [] σ := by
    intro w hinv
    refine x_iload 66 C dX12_worthBy_64 rfl rfl ?_
    refine x_iconst 67 C dX12_worthBy_66 rfl ?_
    refine x_icmp_ne 75 70 C dX12_worthBy_67 rfl rfl (by omega) (by omega) (fun h67 => ?_) (fun h67 => ?_)
    · exact J75 _ (by omega)
    refine x_iload_n 71 C dX12_worthBy_70 rfl rfl rfl ?_
    refine x_iload_n 72 C dX12_worthBy_71 rfl rfl rfl ?_
    refine x_isub 73 C dX12_worthBy_72 rfl ?_
    refine x_istore_5 75 C dX12_worthBy_73 rfl rfl ?_
    exact J75 _ (by omega)
  have J46 : ∀ (w : Int), ((σ 56 t.toNat = 1 → w = v + f) ∧ (σ 56 t.toNat = 3 → w = 2 * (v + f)) ∧ (σ 56 t.toNat = 2 → w = v.tdiv 2) ∧ (σ 56 t.toNat ≠ 1 ∧ σ 56 t.toNat ≠ 3 ∧ σ 56 t.toNat ≠ 2 → w = v)) → Ex K G (NN tc) ρ (shp tc cl) 46 [some (.ref (ρ 51)), some (.int (iZ t)), some (.int (iZ v)), some (.int (iZ f)), some (.int (iZ (σ 56 t.toNat))), some (.int (iZ w))] [] σ := by
    intro w hinv
    refine x_iload 48 C dX12_worthBy_46 rfl rfl ?_
    refine x_iconst 49 C dX12_worthBy_48 rfl ?_
    refine x_icmp_ne 64 52 C dX12_worthBy_49 rfl rfl (by omega) (by omega) (fun h49 => ?_) (fun h49 => ?_)
    · exact J64 _ (by omega)
    refine x_iload_n 53 C dX12_worthBy_52 rfl rfl rfl ?_
    refine x_iconst 54 C dX12_worthBy_53 rfl ?_
    refine x_idivT 55 C dX12_worthBy_54 rfl (by omega) (by omega) ?_
    refine x_aload_n 56 C dX12_worthBy_55 rfl rfl rfl ?_
    refine x_getr (j := 12) 59 C rfl (lt79 (by decide)) rfl rfl (by decide) inT12 tb_4_146 rfl dX12_worthBy_56 rfl ?_
    refine x_iload_n 60 C dX12_worthBy_59 rfl rfl rfl ?_
    refine x_iald 61 C rfl (lt79 (by decide)) dX12_worthBy_60 rfl (by omega) (by omega) (fun r60 => ?_)
    refine x_iadd 62 C dX12_worthBy_61 rfl ?_
    refine x_istore_5 64 C dX12_worthBy_62 rfl rfl ?_
    exact J64 _ (by omega)
  have J35 : ∀ (w : Int), ((σ 56 t.toNat = 1 → w = v + f) ∧ (σ 56 t.toNat = 3 → w = 2 * (v + f)) ∧ (σ 56 t.toNat ≠ 1 ∧ σ 56 t.toNat ≠ 3 → w = v)) → Ex K G (NN tc) ρ (shp tc cl) 35 [some (.ref (ρ 51)), some (.int (iZ t)), some (.int (iZ v)), some (.int (iZ f)), some (.int (iZ (σ 56 t.toNat))), some (.int (iZ w))] [] σ := by
    intro w hinv
    refine x_iload 37 C dX12_worthBy_35 rfl rfl ?_
    refine x_iconst 38 C dX12_worthBy_37 rfl ?_
    refine x_icmp_ne 46 41 C dX12_worthBy_38 rfl rfl (by omega) (by omega) (fun h38 => ?_) (fun h38 => ?_)
    · exact J46 _ (by omega)
    refine x_iload_n 42 C dX12_worthBy_41 rfl rfl rfl ?_
    refine x_iconst 43 C dX12_worthBy_42 rfl ?_
    refine x_idivT 44 C dX12_worthBy_43 rfl (by omega) (by omega) ?_
    refine x_istore_5 46 C dX12_worthBy_44 rfl rfl ?_
    exact J46 _ (by omega)
  have J22 : ∀ (w : Int), ((σ 56 t.toNat = 1 → w = v + f) ∧ (σ 56 t.toNat ≠ 1 → w = v)) → Ex K G (NN tc) ρ (shp tc cl) 22 [some (.ref (ρ 51)), some (.int (iZ t)), some (.int (iZ v)), some (.int (iZ f)), some (.int (iZ (σ 56 t.toNat))), some (.int (iZ w))] [] σ := by
    intro w hinv
    refine x_iload 24 C dX12_worthBy_22 rfl rfl ?_
    refine x_iconst 25 C dX12_worthBy_24 rfl ?_
    refine x_icmp_ne 35 28 C dX12_worthBy_25 rfl rfl (by omega) (by omega) (fun h25 => ?_) (fun h25 => ?_)
    · exact J35 _ (by omega)
    refine x_iconst 29 C dX12_worthBy_28 rfl ?_
    refine x_iload_n 30 C dX12_worthBy_29 rfl rfl rfl ?_
    refine x_iload_n 31 C dX12_worthBy_30 rfl rfl rfl ?_
    refine x_iadd 32 C dX12_worthBy_31 rfl ?_
    refine x_imul 33 C dX12_worthBy_32 rfl ?_
    refine x_istore_5 35 C dX12_worthBy_33 rfl rfl ?_
    exact J35 _ (by omega)
  refine x_iload 13 C dX12_worthBy_11 rfl rfl ?_
  refine x_iconst 14 C dX12_worthBy_13 rfl ?_
  refine x_icmp_ne 22 17 C dX12_worthBy_14 rfl rfl (by omega) (by omega) (fun h14 => ?_) (fun h14 => ?_)
  · exact J22 _ (by omega)
  refine x_iload_n 18 C dX12_worthBy_17 rfl rfl rfl ?_
  refine x_iload_n 19 C dX12_worthBy_18 rfl rfl rfl ?_
  refine x_iadd 20 C dX12_worthBy_19 rfl ?_
  refine x_istore_5 22 C dX12_worthBy_20 rfl rfl ?_
  exact J22 _ (by omega)

def rM_feed (σ : Sig) (v : Int) : Int := if 0 ≤ v ∧ v ≤ 255 then (if σ 51 6 < 160 then σ 51 6 + 1 else -4) else -2
def nM_feed (σ : Sig) (v : Int) : Sig := if 0 ≤ v ∧ v ≤ 255 ∧ σ 51 6 < 160 then up (up σ 54 (σ 51 6).toNat v) 51 6 (σ 51 6 + 1) else σ
set_option maxHeartbeats 4000000 in
set_option maxRecDepth 100000 in
theorem c_X12_feed {l : Launch} {G : Gt} {ρ : Nat → Nat} {tc : Nat} {cl : Nat → Nat} {σ : Sig} {v : Int} (hv : -2147483648 ≤ v ∧ v ≤ 2147483647) (hs : 0 ≤ σ 51 6 ∧ σ 51 6 ≤ 160) : MX l yX12_feed cX12_feed 2 (some .int) 1 25 G (NN tc) ρ (shp tc cl) [.ref (ρ 51), .int (iZ v)] σ (PI (fun z σ' => z = rM_feed σ v ∧ σ' = nM_feed σ v)) := by
  refine MX_of [some (.ref (ρ 51)), some (.int (iZ v))] (by decide +kernel) rfl rfl (Nat.le_of_ble_eq_true rfl) ?_
  intro K hKl C T hRng
  subst hKl
  refine x_iload_n 1 C dX12_feed_0 rfl rfl rfl ?_
  refine x_i2l 2 C dX12_feed_1 rfl (by omega) ?_
  refine x_lconst 3 C dX12_feed_2 rfl 0 rfl ?_
  refine x_ldc2 (z := 255) 6 C tb_5_124 dX12_feed_3 rfl ?_
  refine x_callSe 9 C dX12_feed_6 rfl (c_X12_in (by omega) (by omega) (by omega)) tb_5_69 tb_5_70 tb_1_20 tb_5_71 (na := 3) (by decide +kernel) rfl ⟨by decide, by decide⟩ rfl (Nat.le_of_ble_eq_true rfl) rfl (fun r6 => ?_)
  first
    | refine x_ifb_ne 15 12 C dX12_feed_9 rfl rfl (fun h9 => ?_) (fun h9 => ?_)
    | refine x_if_ne 15 12 C dX12_feed_9 rfl rfl (by omega) (fun h9 => ?_) (fun h9 => ?_)
  rotate_left
  · refine x_bipush 14 C dX12_feed_12 rfl rfl ?_
    refine x_iret C T dX12_feed_14 ?_
    refine PI_i (by omega) ?_
    unfold rM_feed nM_feed
    first | (rw [if_neg (by omega), if_neg (by omega)]; exact ⟨rfl, rfl⟩) | (rw [if_pos (by omega), if_neg (by omega), if_neg (by omega)]; exact ⟨rfl, rfl⟩) | (rw [if_pos (by omega), if_pos (by omega), if_pos (by omega)]; exact ⟨rfl, rfl⟩)
  refine x_aload_n 16 C dX12_feed_15 rfl rfl rfl ?_
  refine x_geti (j := 6) 19 C rfl (lt79 (by decide)) rfl rfl (by decide) inT12 tb_4_140 rfl dX12_feed_16 rfl (fun r16 => ?_)
  refine x_sipush 22 C dX12_feed_19 rfl rfl ?_
  refine x_icmp_ne 28 25 C dX12_feed_22 rfl rfl (by omega) (by omega) (fun h22 => ?_) (fun h22 => ?_)
  rotate_left
  · refine x_bipush 27 C dX12_feed_25 rfl rfl ?_
    refine x_iret C T dX12_feed_27 ?_
    refine PI_i (by omega) ?_
    unfold rM_feed nM_feed
    first | (rw [if_neg (by omega), if_neg (by omega)]; exact ⟨rfl, rfl⟩) | (rw [if_pos (by omega), if_neg (by omega), if_neg (by omega)]; exact ⟨rfl, rfl⟩) | (rw [if_pos (by omega), if_pos (by omega), if_pos (by omega)]; exact ⟨rfl, rfl⟩)
  refine x_aload_n 29 C dX12_feed_28 rfl rfl rfl ?_
  refine x_getr (j := 5) 32 C rfl (lt79 (by decide)) rfl rfl (by decide) inT12 tb_4_139 rfl dX12_feed_29 rfl ?_
  refine x_aload_n 33 C dX12_feed_32 rfl rfl rfl ?_
  refine x_geti (j := 6) 36 C rfl (lt79 (by decide)) rfl rfl (by decide) inT12 tb_4_140 rfl dX12_feed_33 rfl (fun r33 => ?_)
  refine x_iload_n 37 C dX12_feed_36 rfl rfl rfl ?_
  refine x_iast 38 C rfl (lt79 (by decide)) dX12_feed_37 rfl (by omega) (by omega) (by omega) ?_
  refine x_aload_n 39 C dX12_feed_38 rfl rfl rfl ?_
  refine x_dup 40 C dX12_feed_39 rfl rfl ?_
  refine x_geti (j := 6) 43 C rfl (lt79 (by decide)) rfl rfl (by decide) inT12 tb_4_140 rfl dX12_feed_40 rfl (fun r40 => ?_)
  rw [show up σ 54 (σ 51 6).toNat v 51 6 = σ 51 6 from up_r (by omega)] at *
  refine x_iconst 44 C dX12_feed_43 rfl ?_
  refine x_iadd 45 C dX12_feed_44 rfl ?_
  refine x_puti (j := 6) tyX12 48 C rfl (lt79 (by decide)) rfl rfl (by decide) inT12 tyX12_ok nmX12 tb_4_140 rfl rfl rfl dX12_feed_45 rfl (by omega) ?_
  refine x_aload_n 49 C dX12_feed_48 rfl rfl rfl ?_
  refine x_geti (j := 6) 52 C rfl (lt79 (by decide)) rfl rfl (by decide) inT12 tb_4_140 rfl dX12_feed_49 rfl (fun r49 => ?_)
  rw [up_s] at *
  refine x_iret C T dX12_feed_52 ?_
  refine PI_i (by omega) ?_
  unfold rM_feed nM_feed
  first | (rw [if_neg (by omega), if_neg (by omega)]; exact ⟨rfl, rfl⟩) | (rw [if_pos (by omega), if_neg (by omega), if_neg (by omega)]; exact ⟨rfl, rfl⟩) | (rw [if_pos (by omega), if_pos (by omega), if_pos (by omega)]; exact ⟨rfl, rfl⟩)

set_option maxHeartbeats 4000000 in
set_option maxRecDepth 100000 in
theorem c_X12_force {l : Launch} {G : Gt} {ρ : Nat → Nat} {tc : Nat} {cl : Nat → Nat} {σ : Sig} {v : Int} (hv : -2147483648 ≤ v ∧ v ≤ 2147483647) (hc : 0 ≤ σ 51 3 ∧ σ 51 3 ≤ 6) : MX l yX12_force cX12_force 3 (some .int) 1 25 G (NN tc) ρ (shp tc cl) [.ref (ρ 51), .int (iZ v)] σ (PI (fun z σ' => z = (if 0 ≤ v ∧ v < σ 51 3 then σ 51 4 else -2) ∧ σ' = (if 0 ≤ v ∧ v < σ 51 3 then up σ 51 4 v else σ))) := by
  refine MX_of [some (.ref (ρ 51)), some (.int (iZ v)), none] (by decide +kernel) rfl rfl (Nat.le_of_ble_eq_true rfl) ?_
  intro K hKl C T hRng
  subst hKl
  refine x_iload_n 1 C dX12_force_0 rfl rfl rfl ?_
  refine x_i2l 2 C dX12_force_1 rfl (by omega) ?_
  refine x_lconst 3 C dX12_force_2 rfl 0 rfl ?_
  refine x_aload_n 4 C dX12_force_3 rfl rfl rfl ?_
  refine x_geti (j := 3) 7 C rfl (lt79 (by decide)) rfl rfl (by decide) inT12 tb_4_137 rfl dX12_force_4 rfl (fun r4 => ?_)
  refine x_iconst 8 C dX12_force_7 rfl ?_
  refine x_isub 9 C dX12_force_8 rfl ?_
  refine x_i2l 10 C dX12_force_9 rfl (by omega) ?_
  refine x_callSe 13 C dX12_force_10 rfl (c_X12_in (by omega) (by omega) (by omega)) tb_5_69 tb_5_70 tb_1_20 tb_5_71 (na := 3) (by decide +kernel) rfl ⟨by decide, by decide⟩ rfl (Nat.le_of_ble_eq_true rfl) rfl (fun r10 => ?_)
  first
    | refine x_ifb_ne 19 16 C dX12_force_13 rfl rfl (fun h13 => ?_) (fun h13 => ?_)
    | refine x_if_ne 19 16 C dX12_force_13 rfl rfl (by omega) (fun h13 => ?_) (fun h13 => ?_)
  · refine x_aload_n 20 C dX12_force_19 rfl rfl rfl ?_
    refine x_geti (j := 4) 23 C rfl (lt79 (by decide)) rfl rfl (by decide) inT12 tb_4_138 rfl dX12_force_20 rfl (fun r20 => ?_)
    refine x_istore_n2 24 C dX12_force_23 rfl rfl ?_
    refine x_aload_n 25 C dX12_force_24 rfl rfl rfl ?_
    refine x_iload_n 26 C dX12_force_25 rfl rfl rfl ?_
    refine x_puti (j := 4) tyX12 29 C rfl (lt79 (by decide)) rfl rfl (by decide) inT12 tyX12_ok nmX12 tb_4_138 rfl rfl rfl dX12_force_26 rfl (by omega) ?_
    refine x_iload_n 30 C dX12_force_29 rfl rfl rfl ?_
    refine x_iret C T dX12_force_30 ?_
    refine PI_i (by omega) ?_
    first | (rw [if_neg (by omega), if_neg (by omega)]; exact ⟨rfl, rfl⟩) | (rw [if_pos (by omega), if_pos (by omega)]; exact ⟨rfl, rfl⟩)
  refine x_bipush 18 C dX12_force_16 rfl rfl ?_
  refine x_iret C T dX12_force_18 ?_
  refine PI_i (by omega) ?_
  first | (rw [if_neg (by omega), if_neg (by omega)]; exact ⟨rfl, rfl⟩) | (rw [if_pos (by omega), if_pos (by omega)]; exact ⟨rfl, rfl⟩)

set_option maxHeartbeats 4000000 in
set_option maxRecDepth 100000 in
theorem c_X12_count {l : Launch} {G : Gt} {ρ : Nat → Nat} {tc : Nat} {cl : Nat → Nat} {σ : Sig} {v : Int} (hv : -2147483648 ≤ v ∧ v ≤ 2147483647) : MX l yX12_count cX12_count 4 (some .int) 1 25 G (NN tc) ρ (shp tc cl) [.ref (ρ 51), .int (iZ v)] σ (PE σ (if v = 0 then σ 51 18 else if v = 1 then σ 51 13 else if v = 2 then cntH (σ 55) 36 else if v = 3 then σ 51 8 else if v = 4 then σ 51 3 else if v = 5 then σ 51 6 else if v = 6 then σ 51 4 else -2)) := by
  refine MX_of [some (.ref (ρ 51)), some (.int (iZ v)), none, none] (by decide +kernel) rfl rfl (Nat.le_of_ble_eq_true rfl) ?_
  intro K hKl C T hRng
  subst hKl
  refine x_iload_n 1 C dX12_count_0 rfl rfl rfl ?_
  refine x_i2l 2 C dX12_count_1 rfl (by omega) ?_
  refine x_lconst 3 C dX12_count_2 rfl 0 rfl ?_
  refine x_ldc2 (z := 6) 6 C tb_6_101 dX12_count_3 rfl ?_
  refine x_callSe 9 C dX12_count_6 rfl (c_X12_in (by omega) (by omega) (by omega)) tb_5_69 tb_5_70 tb_1_20 tb_5_71 (na := 3) (by decide +kernel) rfl ⟨by decide, by decide⟩ rfl (Nat.le_of_ble_eq_true rfl) rfl (fun r6 => ?_)
  first
    | refine x_ifb_ne 15 12 C dX12_count_9 rfl rfl (fun h9 => ?_) (fun h9 => ?_)
    | refine x_if_ne 15 12 C dX12_count_9 rfl rfl (by omega) (fun h9 => ?_) (fun h9 => ?_)
  rotate_left
  · refine x_bipush 14 C dX12_count_12 rfl rfl ?_
    refine x_iret C T dX12_count_14 ?_
    refine PE_i ?_ (by omega)
    first
      | (exfalso; omega)
      | rw [if_pos (by omega)]
      | rw [if_neg (by omega), if_pos (by omega)]
      | (rw [if_neg (by omega), if_neg (by omega), if_pos (by omega), hz, show i = 36 by omega]; done)
      | rw [if_neg (by omega), if_neg (by omega), if_neg (by omega), if_pos (by omega)]
      | rw [if_neg (by omega), if_neg (by omega), if_neg (by omega), if_neg (by omega), if_pos (by omega)]
      | rw [if_neg (by omega), if_neg (by omega), if_neg (by omega), if_neg (by omega), if_neg (by omega), if_pos (by omega)]
      | rw [if_neg (by omega), if_neg (by omega), if_neg (by omega), if_neg (by omega), if_neg (by omega), if_neg (by omega), if_pos (by omega)]
      | rw [if_neg (by omega), if_neg (by omega), if_neg (by omega), if_neg (by omega), if_neg (by omega), if_neg (by omega), if_neg (by omega)]
  refine x_iload_n 16 C dX12_count_15 rfl rfl rfl ?_
  refine x_iconst 17 C dX12_count_16 rfl ?_
  refine x_icmp_ne 55 20 C dX12_count_17 rfl rfl (by omega) (by omega) (fun h17 => ?_) (fun h17 => ?_)
  rotate_left
  · refine x_iconst 21 C dX12_count_20 rfl ?_
    refine x_istore_n2 22 C dX12_count_21 rfl rfl ?_
    refine x_iconst 23 C dX12_count_22 rfl ?_
    refine x_istore_n3 24 C dX12_count_23 rfl rfl ?_
    have L24 : ∀ (m : Nat) (i : Nat) (y z : Int), m = 36 - i → i ≤ 36 ∧ y = i ∧ z = cntH (σ 55) i → Ex K G (NN tc) ρ (shp tc cl) 24 [some (.ref (ρ 51)), some (.int (iZ v)), some (.int (iZ z)), some (.int (iZ y))] [] σ := by
      intro m
      induction m using Nat.strongRecOn with
      | ind m ih =>
        intro i y z hm hinv
        obtain ⟨hi, rfl, hz⟩ := hinv
        have hc := cntH_in (σ 55) i
        refine x_iload_n 25 C dX12_count_24 rfl rfl rfl ?_
        refine x_bipush 27 C dX12_count_25 rfl rfl ?_
        refine x_icmp_ge 53 30 C dX12_count_27 rfl rfl (by omega) (by omega) (fun h27 => ?_) (fun h27 => ?_)
        · refine x_iload_n 54 C dX12_count_53 rfl rfl rfl ?_
          refine x_iret C T dX12_count_54 ?_
          refine PE_i ?_ (by omega)
          first
            | (exfalso; omega)
            | rw [if_pos (by omega)]
            | rw [if_neg (by omega), if_pos (by omega)]
            | (rw [if_neg (by omega), if_neg (by omega), if_pos (by omega), hz, show i = 36 by omega]; done)
            | rw [if_neg (by omega), if_neg (by omega), if_neg (by omega), if_pos (by omega)]
            | rw [if_neg (by omega), if_neg (by omega), if_neg (by omega), if_neg (by omega), if_pos (by omega)]
            | rw [if_neg (by omega), if_neg (by omega), if_neg (by omega), if_neg (by omega), if_neg (by omega), if_pos (by omega)]
            | rw [if_neg (by omega), if_neg (by omega), if_neg (by omega), if_neg (by omega), if_neg (by omega), if_neg (by omega), if_pos (by omega)]
            | rw [if_neg (by omega), if_neg (by omega), if_neg (by omega), if_neg (by omega), if_neg (by omega), if_neg (by omega), if_neg (by omega)]
        have J45 : ∀ (w : Int), w = (if 0 < σ 55 i then 1 else 0) → Ex K G (NN tc) ρ (shp tc cl) 45 [some (.ref (ρ 51)), some (.int (iZ v)), some (.int (iZ z)), some (.int (iZ (i : Int)))] [.int (iZ w), .int (iZ z)] σ := by
          intro w hinv
          have hz45 : z + w = cntH (σ 55) (i + 1) := by rw [hz, hinv, cntH]
          refine x_iadd 46 C dX12_count_45 rfl ?_
          refine x_istore_n2 47 C dX12_count_46 rfl rfl ?_
          refine x_iinc_3 50 C dX12_count_47 rfl rfl ?_
          refine x_goto 24 C dX12_count_50 rfl ?_
          exact ih _ (by omega) (i + 1) _ _ rfl ⟨by omega, by omega, hz45⟩
        refine x_iload_n 31 C dX12_count_30 rfl rfl rfl ?_
        refine x_aload_n 32 C dX12_count_31 rfl rfl rfl ?_
        refine x_getr (j := 7) 35 C rfl (lt79 (by decide)) rfl rfl (by decide) inT12 tb_4_141 rfl dX12_count_32 rfl ?_
        refine x_iload_n 36 C dX12_count_35 rfl rfl rfl ?_
        refine x_iald 37 C rfl (lt79 (by decide)) dX12_count_36 rfl (by omega) (by omega) (fun r36 => ?_)
        refine x_if_le 44 40 C dX12_count_37 rfl rfl (by omega) (fun h37 => ?_) (fun h37 => ?_)
        · refine x_iconst 45 C dX12_count_44 rfl ?_
          exact J45 _ (by simp only [Int.toNat_natCast] at *; split <;> omega)
        refine x_iconst 41 C dX12_count_40 rfl ?_
        refine x_goto 45 C dX12_count_41 rfl ?_
        exact J45 _ (by simp only [Int.toNat_natCast] at *; split <;> omega)
    exact L24 _ 0 _ _ rfl ⟨by omega, rfl, rfl⟩
  refine x_iload_n 56 C dX12_count_55 rfl rfl rfl ?_
  first
    | refine x_ifb_ne 66 59 C dX12_count_56 rfl rfl (fun h56 => ?_) (fun h56 => ?_)
    | refine x_if_ne 66 59 C dX12_count_56 rfl rfl (by omega) (fun h56 => ?_) (fun h56 => ?_)
  rotate_left
  · refine x_aload_n 60 C dX12_count_59 rfl rfl rfl ?_
    refine x_geti (j := 18) 63 C rfl (lt79 (by decide)) rfl rfl (by decide) inT12 tb_4_152 rfl dX12_count_60 rfl (fun r60 => ?_)
    refine x_goto 118 C dX12_count_63 rfl ?_
    refine x_iret C T dX12_count_118 ?_
    refine PE_i ?_ (by omega)
    first
      | (exfalso; omega)
      | rw [if_pos (by omega)]
      | rw [if_neg (by omega), if_pos (by omega)]
      | (rw [if_neg (by omega), if_neg (by omega), if_pos (by omega), hz, show i = 36 by omega]; done)
      | rw [if_neg (by omega), if_neg (by omega), if_neg (by omega), if_pos (by omega)]
      | rw [if_neg (by omega), if_neg (by omega), if_neg (by omega), if_neg (by omega), if_pos (by omega)]
      | rw [if_neg (by omega), if_neg (by omega), if_neg (by omega), if_neg (by omega), if_neg (by omega), if_pos (by omega)]
      | rw [if_neg (by omega), if_neg (by omega), if_neg (by omega), if_neg (by omega), if_neg (by omega), if_neg (by omega), if_pos (by omega)]
      | rw [if_neg (by omega), if_neg (by omega), if_neg (by omega), if_neg (by omega), if_neg (by omega), if_neg (by omega), if_neg (by omega)]
  refine x_iload_n 67 C dX12_count_66 rfl rfl rfl ?_
  refine x_iconst 68 C dX12_count_67 rfl ?_
  refine x_icmp_ne 78 71 C dX12_count_68 rfl rfl (by omega) (by omega) (fun h68 => ?_) (fun h68 => ?_)
  rotate_left
  · refine x_aload_n 72 C dX12_count_71 rfl rfl rfl ?_
    refine x_geti (j := 13) 75 C rfl (lt79 (by decide)) rfl rfl (by decide) inT12 tb_4_147 rfl dX12_count_72 rfl (fun r72 => ?_)
    refine x_goto 118 C dX12_count_75 rfl ?_
    refine x_iret C T dX12_count_118 ?_
    refine PE_i ?_ (by omega)
    first
      | (exfalso; omega)
      | rw [if_pos (by omega)]
      | rw [if_neg (by omega), if_pos (by omega)]
      | (rw [if_neg (by omega), if_neg (by omega), if_pos (by omega), hz, show i = 36 by omega]; done)
      | rw [if_neg (by omega), if_neg (by omega), if_neg (by omega), if_pos (by omega)]
      | rw [if_neg (by omega), if_neg (by omega), if_neg (by omega), if_neg (by omega), if_pos (by omega)]
      | rw [if_neg (by omega), if_neg (by omega), if_neg (by omega), if_neg (by omega), if_neg (by omega), if_pos (by omega)]
      | rw [if_neg (by omega), if_neg (by omega), if_neg (by omega), if_neg (by omega), if_neg (by omega), if_neg (by omega), if_pos (by omega)]
      | rw [if_neg (by omega), if_neg (by omega), if_neg (by omega), if_neg (by omega), if_neg (by omega), if_neg (by omega), if_neg (by omega)]
  refine x_iload_n 79 C dX12_count_78 rfl rfl rfl ?_
  refine x_iconst 80 C dX12_count_79 rfl ?_
  refine x_icmp_ne 90 83 C dX12_count_80 rfl rfl (by omega) (by omega) (fun h80 => ?_) (fun h80 => ?_)
  rotate_left
  · refine x_aload_n 84 C dX12_count_83 rfl rfl rfl ?_
    refine x_geti (j := 8) 87 C rfl (lt79 (by decide)) rfl rfl (by decide) inT12 tb_4_142 rfl dX12_count_84 rfl (fun r84 => ?_)
    refine x_goto 118 C dX12_count_87 rfl ?_
    refine x_iret C T dX12_count_118 ?_
    refine PE_i ?_ (by omega)
    first
      | (exfalso; omega)
      | rw [if_pos (by omega)]
      | rw [if_neg (by omega), if_pos (by omega)]
      | (rw [if_neg (by omega), if_neg (by omega), if_pos (by omega), hz, show i = 36 by omega]; done)
      | rw [if_neg (by omega), if_neg (by omega), if_neg (by omega), if_pos (by omega)]
      | rw [if_neg (by omega), if_neg (by omega), if_neg (by omega), if_neg (by omega), if_pos (by omega)]
      | rw [if_neg (by omega), if_neg (by omega), if_neg (by omega), if_neg (by omega), if_neg (by omega), if_pos (by omega)]
      | rw [if_neg (by omega), if_neg (by omega), if_neg (by omega), if_neg (by omega), if_neg (by omega), if_neg (by omega), if_pos (by omega)]
      | rw [if_neg (by omega), if_neg (by omega), if_neg (by omega), if_neg (by omega), if_neg (by omega), if_neg (by omega), if_neg (by omega)]
  refine x_iload_n 91 C dX12_count_90 rfl rfl rfl ?_
  refine x_iconst 92 C dX12_count_91 rfl ?_
  refine x_icmp_ne 102 95 C dX12_count_92 rfl rfl (by omega) (by omega) (fun h92 => ?_) (fun h92 => ?_)
  rotate_left
  · refine x_aload_n 96 C dX12_count_95 rfl rfl rfl ?_
    refine x_geti (j := 3) 99 C rfl (lt79 (by decide)) rfl rfl (by decide) inT12 tb_4_137 rfl dX12_count_96 rfl (fun r96 => ?_)
    refine x_goto 118 C dX12_count_99 rfl ?_
    refine x_iret C T dX12_count_118 ?_
    refine PE_i ?_ (by omega)
    first
      | (exfalso; omega)
      | rw [if_pos (by omega)]
      | rw [if_neg (by omega), if_pos (by omega)]
      | (rw [if_neg (by omega), if_neg (by omega), if_pos (by omega), hz, show i = 36 by omega]; done)
      | rw [if_neg (by omega), if_neg (by omega), if_neg (by omega), if_pos (by omega)]
      | rw [if_neg (by omega), if_neg (by omega), if_neg (by omega), if_neg (by omega), if_pos (by omega)]
      | rw [if_neg (by omega), if_neg (by omega), if_neg (by omega), if_neg (by omega), if_neg (by omega), if_pos (by omega)]
      | rw [if_neg (by omega), if_neg (by omega), if_neg (by omega), if_neg (by omega), if_neg (by omega), if_neg (by omega), if_pos (by omega)]
      | rw [if_neg (by omega), if_neg (by omega), if_neg (by omega), if_neg (by omega), if_neg (by omega), if_neg (by omega), if_neg (by omega)]
  refine x_iload_n 103 C dX12_count_102 rfl rfl rfl ?_
  refine x_iconst 104 C dX12_count_103 rfl ?_
  refine x_icmp_ne 114 107 C dX12_count_104 rfl rfl (by omega) (by omega) (fun h104 => ?_) (fun h104 => ?_)
  · refine x_aload_n 115 C dX12_count_114 rfl rfl rfl ?_
    refine x_geti (j := 4) 118 C rfl (lt79 (by decide)) rfl rfl (by decide) inT12 tb_4_138 rfl dX12_count_115 rfl (fun r115 => ?_)
    refine x_iret C T dX12_count_118 ?_
    refine PE_i ?_ (by omega)
    first
      | (exfalso; omega)
      | rw [if_pos (by omega)]
      | rw [if_neg (by omega), if_pos (by omega)]
      | (rw [if_neg (by omega), if_neg (by omega), if_pos (by omega), hz, show i = 36 by omega]; done)
      | rw [if_neg (by omega), if_neg (by omega), if_neg (by omega), if_pos (by omega)]
      | rw [if_neg (by omega), if_neg (by omega), if_neg (by omega), if_neg (by omega), if_pos (by omega)]
      | rw [if_neg (by omega), if_neg (by omega), if_neg (by omega), if_neg (by omega), if_neg (by omega), if_pos (by omega)]
      | rw [if_neg (by omega), if_neg (by omega), if_neg (by omega), if_neg (by omega), if_neg (by omega), if_neg (by omega), if_pos (by omega)]
      | rw [if_neg (by omega), if_neg (by omega), if_neg (by omega), if_neg (by omega), if_neg (by omega), if_neg (by omega), if_neg (by omega)]
  refine x_aload_n 108 C dX12_count_107 rfl rfl rfl ?_
  refine x_geti (j := 6) 111 C rfl (lt79 (by decide)) rfl rfl (by decide) inT12 tb_4_140 rfl dX12_count_108 rfl (fun r108 => ?_)
  refine x_goto 118 C dX12_count_111 rfl ?_
  refine x_iret C T dX12_count_118 ?_
  refine PE_i ?_ (by omega)
  first
    | (exfalso; omega)
    | rw [if_pos (by omega)]
    | rw [if_neg (by omega), if_pos (by omega)]
    | (rw [if_neg (by omega), if_neg (by omega), if_pos (by omega), hz, show i = 36 by omega]; done)
    | rw [if_neg (by omega), if_neg (by omega), if_neg (by omega), if_pos (by omega)]
    | rw [if_neg (by omega), if_neg (by omega), if_neg (by omega), if_neg (by omega), if_pos (by omega)]
    | rw [if_neg (by omega), if_neg (by omega), if_neg (by omega), if_neg (by omega), if_neg (by omega), if_pos (by omega)]
    | rw [if_neg (by omega), if_neg (by omega), if_neg (by omega), if_neg (by omega), if_neg (by omega), if_neg (by omega), if_pos (by omega)]
    | rw [if_neg (by omega), if_neg (by omega), if_neg (by omega), if_neg (by omega), if_neg (by omega), if_neg (by omega), if_neg (by omega)]

set_option maxHeartbeats 4000000 in
set_option maxRecDepth 100000 in
theorem c_X12_over {l : Launch} {G : Gt} {ρ : Nat → Nat} {tc : Nat} {cl : Nat → Nat} {σ : Sig} {k : Int} (hk : 0 ≤ k ∧ k ≤ 5) : MX l yX12_over cX12_over 1 (some .int) 0 0 G (NN tc) ρ (shp tc cl) [.int (iZ k)] σ (PE σ (if k = 0 then -1 else if k = 3 then 1 else if k = 4 then 2 else 0)) := by
  refine MX_of [some (.int (iZ k))] (by decide +kernel) rfl rfl (Nat.le_of_ble_eq_true rfl) ?_
  intro K hKl C T hRng
  subst hKl
  refine x_iload_n 1 C dX12_over_0 rfl rfl rfl ?_
  first
    | refine x_ifb_ne 8 4 C dX12_over_1 rfl rfl (fun h1 => ?_) (fun h1 => ?_)
    | refine x_if_ne 8 4 C dX12_over_1 rfl rfl (by omega) (fun h1 => ?_) (fun h1 => ?_)
  rotate_left
  · refine x_iconst 5 C dX12_over_4 rfl ?_
    refine x_goto 27 C dX12_over_5 rfl ?_
    refine x_iret C T dX12_over_27 ?_
    exact PE_i (by first | rw [if_pos (by omega)] | rw [if_neg (by omega), if_pos (by omega)] | rw [if_neg (by omega), if_neg (by omega), if_pos (by omega)] | rw [if_neg (by omega), if_neg (by omega), if_neg (by omega)]) (by omega)
  refine x_iload_n 9 C dX12_over_8 rfl rfl rfl ?_
  refine x_iconst 10 C dX12_over_9 rfl ?_
  refine x_icmp_ne 17 13 C dX12_over_10 rfl rfl (by omega) (by omega) (fun h10 => ?_) (fun h10 => ?_)
  rotate_left
  · refine x_iconst 14 C dX12_over_13 rfl ?_
    refine x_goto 27 C dX12_over_14 rfl ?_
    refine x_iret C T dX12_over_27 ?_
    exact PE_i (by first | rw [if_pos (by omega)] | rw [if_neg (by omega), if_pos (by omega)] | rw [if_neg (by omega), if_neg (by omega), if_pos (by omega)] | rw [if_neg (by omega), if_neg (by omega), if_neg (by omega)]) (by omega)
  refine x_iload_n 18 C dX12_over_17 rfl rfl rfl ?_
  refine x_iconst 19 C dX12_over_18 rfl ?_
  refine x_icmp_ne 26 22 C dX12_over_19 rfl rfl (by omega) (by omega) (fun h19 => ?_) (fun h19 => ?_)
  · refine x_iconst 27 C dX12_over_26 rfl ?_
    refine x_iret C T dX12_over_27 ?_
    exact PE_i (by first | rw [if_pos (by omega)] | rw [if_neg (by omega), if_pos (by omega)] | rw [if_neg (by omega), if_neg (by omega), if_pos (by omega)] | rw [if_neg (by omega), if_neg (by omega), if_neg (by omega)]) (by omega)
  refine x_iconst 23 C dX12_over_22 rfl ?_
  refine x_goto 27 C dX12_over_23 rfl ?_
  refine x_iret C T dX12_over_27 ?_
  exact PE_i (by first | rw [if_pos (by omega)] | rw [if_neg (by omega), if_pos (by omega)] | rw [if_neg (by omega), if_neg (by omega), if_pos (by omega)] | rw [if_neg (by omega), if_neg (by omega), if_neg (by omega)]) (by omega)

def overM (x : Int) : Nat := if x = -1 then 0 else if x = 0 then 1 else if x = 3 ∨ x = 4 then 3 else 2
theorem overM_lt {x : Int} (h : 0 ≤ x ∧ x ≤ 5) : overM (if x = 0 then -1 else if x = 3 then 1 else if x = 4 then 2 else 0) < overM x := by
  have : x = 0 ∨ x = 1 ∨ x = 2 ∨ x = 3 ∨ x = 4 ∨ x = 5 := by omega
  rcases this with rfl | rfl | rfl | rfl | rfl | rfl <;> decide
set_option maxHeartbeats 4000000 in
set_option maxRecDepth 100000 in
theorem c_X12_taken {l : Launch} {G : Gt} {ρ : Nat → Nat} {tc : Nat} {cl : Nat → Nat} {σ : Sig} {t q : Int} (ht : -2147483648 ≤ t ∧ t ≤ 2147483647) (hq : -2147483648 ≤ q ∧ q ≤ 2147483647) (hT : MI σ) : MX l yX12_taken cX12_taken 4 (some .int) 2 46 G (NN tc) ρ (shp tc cl) [.ref (ρ 51), .int (iZ t), .int (iZ q)] σ (PE σ (if 0 ≤ q ∧ q < 6 then (if 0 ≤ t ∧ t < σ 51 13 then (if q = 0 ∨ σ 56 t.toNat = q ∨ (σ 56 t.toNat = 3 ∧ q = 1) ∨ (σ 56 t.toNat = 4 ∧ q = 2) then σ 59 t.toNat else -13) else -11) else -2)) := by
  refine MX_of [some (.ref (ρ 51)), some (.int (iZ t)), some (.int (iZ q)), none] (by decide +kernel) rfl rfl (Nat.le_of_ble_eq_true rfl) ?_
  intro K hKl C T hRng
  subst hKl
  have h3 := hT.2.2.1
  have hqq := hT.2.2.2.2 t.toNat
  refine x_iload_n 1 C dX12_taken_0 rfl rfl rfl ?_
  refine x_i2l 2 C dX12_taken_1 rfl (by omega) ?_
  refine x_lconst 3 C dX12_taken_2 rfl 0 rfl ?_
  refine x_ldc2 (z := 5) 6 C tb_5_85 dX12_taken_3 rfl ?_
  refine x_callSe 9 C dX12_taken_6 rfl (c_X12_in (by omega) (by omega) (by omega)) tb_5_69 tb_5_70 tb_1_20 tb_5_71 (na := 3) (by decide +kernel) rfl ⟨by decide, by decide⟩ rfl (Nat.le_of_ble_eq_true rfl) rfl (fun r6 => ?_)
  first
    | refine x_ifb_ne 15 12 C dX12_taken_9 rfl rfl (fun h9 => ?_) (fun h9 => ?_)
    | refine x_if_ne 15 12 C dX12_taken_9 rfl rfl (by omega) (fun h9 => ?_) (fun h9 => ?_)
  rotate_left
  · refine x_bipush 14 C dX12_taken_12 rfl rfl ?_
    refine x_iret C T dX12_taken_14 ?_
    refine PE_i ?_ (by omega)
    first
      | (exfalso; omega)
      | rw [if_neg (by omega)]
      | rw [if_pos (by omega), if_neg (by omega)]
      | rw [if_pos (by omega), if_pos (by omega), if_pos (by omega)]
      | rw [if_pos (by omega), if_pos (by omega), if_neg (by omega)]
  refine x_aload_n 16 C dX12_taken_15 rfl rfl rfl ?_
  refine x_iload_n 17 C dX12_taken_16 rfl rfl rfl ?_
  refine x_callVe 20 C dX12_taken_17 rfl (c_X12_isThing (by omega) hT) rfl (lt79 (by decide)) rfl tb_5_97 tb_5_99 tb_0_37 tb_1_20 tb_5_100 (na := 1) (by decide +kernel) rfl ⟨by decide, by decide⟩ rfl (Nat.le_of_ble_eq_true rfl) rfl (fun r17 => ?_)
  first
    | refine x_ifb_ne 26 23 C dX12_taken_20 rfl rfl (fun h20 => ?_) (fun h20 => ?_)
    | refine x_if_ne 26 23 C dX12_taken_20 rfl rfl (by omega) (fun h20 => ?_) (fun h20 => ?_)
  · refine x_aload_n 27 C dX12_taken_26 rfl rfl rfl ?_
    refine x_getr (j := 9) 30 C rfl (lt79 (by decide)) rfl rfl (by decide) inT12 tb_4_143 rfl dX12_taken_27 rfl ?_
    refine x_iload_n 31 C dX12_taken_30 rfl rfl rfl ?_
    refine x_iald 32 C rfl (lt79 (by decide)) dX12_taken_31 rfl (by omega) (by omega) (fun r31 => ?_)
    refine x_istore_n3 33 C dX12_taken_32 rfl rfl ?_
    have L33 : ∀ (m : Nat) (x : Int), m = overM x → ((-1 ≤ x ∧ x ≤ 5) ∧ ((q = 0 ∨ σ 56 t.toNat = q ∨ (σ 56 t.toNat = 3 ∧ q = 1) ∨ (σ 56 t.toNat = 4 ∧ q = 2)) ↔ (0 ≤ x ∧ (q = 0 ∨ x = q ∨ (x = 3 ∧ q = 1) ∨ (x = 4 ∧ q = 2))))) → Ex K G (NN tc) ρ (shp tc cl) 33 [some (.ref (ρ 51)), some (.int (iZ t)), some (.int (iZ q)), some (.int (iZ x))] [] σ := by
      intro m
      induction m using Nat.strongRecOn with
      | ind m ih =>
        intro x hm hinv
        obtain ⟨hx, hiff⟩ := hinv
        refine x_iload_n 34 C dX12_taken_33 rfl rfl rfl ?_
        refine x_iconst 35 C dX12_taken_34 rfl ?_
        refine x_icmp_eq 51 38 C dX12_taken_35 rfl rfl (by omega) (by omega) (fun h35 => ?_) (fun h35 => ?_)
        · refine x_iload_n 52 C dX12_taken_51 rfl rfl rfl ?_
          refine x_iload_n 53 C dX12_taken_52 rfl rfl rfl ?_
          refine x_icmp_ne 65 56 C dX12_taken_53 rfl rfl (by omega) (by omega) (fun h53 => ?_) (fun h53 => ?_)
          · refine x_bipush 67 C dX12_taken_65 rfl rfl ?_
            refine x_iret C T dX12_taken_67 ?_
            refine PE_i ?_ (by omega)
            first
              | (exfalso; omega)
              | rw [if_neg (by omega)]
              | rw [if_pos (by omega), if_neg (by omega)]
              | rw [if_pos (by omega), if_pos (by omega), if_pos (by omega)]
              | rw [if_pos (by omega), if_pos (by omega), if_neg (by omega)]
          refine x_aload_n 57 C dX12_taken_56 rfl rfl rfl ?_
          refine x_getr (j := 12) 60 C rfl (lt79 (by decide)) rfl rfl (by decide) inT12 tb_4_146 rfl dX12_taken_57 rfl ?_
          refine x_iload_n 61 C dX12_taken_60 rfl rfl rfl ?_
          refine x_iald 62 C rfl (lt79 (by decide)) dX12_taken_61 rfl (by omega) (by omega) (fun r61 => ?_)
          refine x_goto 67 C dX12_taken_62 rfl ?_
          refine x_iret C T dX12_taken_67 ?_
          refine PE_i ?_ (by omega)
          first
            | (exfalso; omega)
            | rw [if_neg (by omega)]
            | rw [if_pos (by omega), if_neg (by omega)]
            | rw [if_pos (by omega), if_pos (by omega), if_pos (by omega)]
            | rw [if_pos (by omega), if_pos (by omega), if_neg (by omega)]
        refine x_iload_n 39 C dX12_taken_38 rfl rfl rfl ?_
        refine x_iload_n 40 C dX12_taken_39 rfl rfl rfl ?_
        refine x_icmp_eq 51 43 C dX12_taken_40 rfl rfl (by omega) (by omega) (fun h40 => ?_) (fun h40 => ?_)
        rotate_left
        · refine x_iload_n 44 C dX12_taken_43 rfl rfl rfl ?_
          refine x_callSe 47 C dX12_taken_44 rfl (c_X12_over (by omega)) tb_6_124 tb_6_125 tb_1_20 tb_6_126 (na := 1) (by decide +kernel) rfl ⟨by decide, by decide⟩ rfl (Nat.le_of_ble_eq_true rfl) rfl (fun r44 => ?_)
          refine x_istore_n3 48 C dX12_taken_47 rfl rfl ?_
          refine x_goto 33 C dX12_taken_48 rfl ?_
          refine ih _ ?_ _ rfl ?_
          · rw [hm]; exact overM_lt (by omega)
          · have hy : ∀ y : Int, y = (if x = 0 then -1 else if x = 3 then 1 else if x = 4 then 2 else 0) → (x = 0 → y = -1) ∧ (x = 3 → y = 1) ∧ (x = 4 → y = 2) ∧ (x ≠ 0 ∧ x ≠ 3 ∧ x ≠ 4 → y = 0) := by
              intro y e
              rw [e]
              refine ⟨fun h => by rw [if_pos h], fun h => by rw [if_neg (by omega), if_pos h], fun h => by rw [if_neg (by omega), if_neg (by omega), if_pos h], fun h => by rw [if_neg (by omega), if_neg (by omega), if_neg (by omega)]⟩
            have hy2 := hy _ rfl
            generalize (if x = 0 then (-1 : Int) else if x = 3 then 1 else if x = 4 then 2 else 0) = y at hy2 ⊢
            refine ⟨by omega, hiff.trans ?_⟩
            constructor <;> intro h5 <;> omega
        refine x_iload_n 52 C dX12_taken_51 rfl rfl rfl ?_
        refine x_iload_n 53 C dX12_taken_52 rfl rfl rfl ?_
        refine x_icmp_ne 65 56 C dX12_taken_53 rfl rfl (by omega) (by omega) (fun h53 => ?_) (fun h53 => ?_)
        · refine x_bipush 67 C dX12_taken_65 rfl rfl ?_
          refine x_iret C T dX12_taken_67 ?_
          refine PE_i ?_ (by omega)
          first
            | (exfalso; omega)
            | rw [if_neg (by omega)]
            | rw [if_pos (by omega), if_neg (by omega)]
            | rw [if_pos (by omega), if_pos (by omega), if_pos (by omega)]
            | rw [if_pos (by omega), if_pos (by omega), if_neg (by omega)]
        refine x_aload_n 57 C dX12_taken_56 rfl rfl rfl ?_
        refine x_getr (j := 12) 60 C rfl (lt79 (by decide)) rfl rfl (by decide) inT12 tb_4_146 rfl dX12_taken_57 rfl ?_
        refine x_iload_n 61 C dX12_taken_60 rfl rfl rfl ?_
        refine x_iald 62 C rfl (lt79 (by decide)) dX12_taken_61 rfl (by omega) (by omega) (fun r61 => ?_)
        refine x_goto 67 C dX12_taken_62 rfl ?_
        refine x_iret C T dX12_taken_67 ?_
        refine PE_i ?_ (by omega)
        first
          | (exfalso; omega)
          | rw [if_neg (by omega)]
          | rw [if_pos (by omega), if_neg (by omega)]
          | rw [if_pos (by omega), if_pos (by omega), if_pos (by omega)]
          | rw [if_pos (by omega), if_pos (by omega), if_neg (by omega)]
    exact L33 _ _ rfl ⟨by omega, by omega⟩
  refine x_bipush 25 C dX12_taken_23 rfl rfl ?_
  refine x_iret C T dX12_taken_25 ?_
  refine PE_i ?_ (by omega)
  first
    | (exfalso; omega)
    | rw [if_neg (by omega)]
    | rw [if_pos (by omega), if_neg (by omega)]
    | rw [if_pos (by omega), if_pos (by omega), if_pos (by omega)]
    | rw [if_pos (by omega), if_pos (by omega), if_neg (by omega)]

set_option maxHeartbeats 4000000 in
set_option maxRecDepth 100000 in
theorem c_X12_fail {l : Launch} {G : Gt} {ρ : Nat → Nat} {tc : Nat} {cl : Nat → Nat} {σ : Sig}  : MX l yX12_fail cX12_fail 1 none 0 0 G (NN tc) ρ (shp tc cl) [.ref (ρ 51)] σ (PV (fun σ' => (σ 51 32 = 0 → σ' = up (up σ 51 32 1) 51 33 (σ 51 29)) ∧ (σ 51 32 ≠ 0 → σ' = σ))) := by
  refine MX_of [some (.ref (ρ 51))] (by decide +kernel) rfl rfl (Nat.le_of_ble_eq_true rfl) ?_
  intro K hKl C T hRng
  subst hKl
  refine x_aload_n 1 C dX12_fail_0 rfl rfl rfl ?_
  refine x_geti (j := 32) 4 C rfl (lt79 (by decide)) rfl rfl (by decide) inT12 tb_4_166 rfl dX12_fail_1 rfl (fun r1 => ?_)
  refine x_if_ne 20 7 C dX12_fail_4 rfl rfl (by omega) (fun h4 => ?_) (fun h4 => ?_)
  · refine x_vret C T dX12_fail_20 ?_
    refine PV_i ⟨fun h => ?_, fun h => ?_⟩ <;> first | rfl | (exfalso; omega) | (rw [show up σ 51 32 1 51 29 = σ 51 29 from up_i (by omega)])
  refine x_aload_n 8 C dX12_fail_7 rfl rfl rfl ?_
  refine x_iconst 9 C dX12_fail_8 rfl ?_
  refine x_putz (j := 32) tyX12 12 C rfl (lt79 (by decide)) rfl rfl (by decide) inT12 tyX12_ok nmX12 tb_4_166 rfl rfl rfl dX12_fail_9 rfl (by omega) ?_
  refine x_aload_n 13 C dX12_fail_12 rfl rfl rfl ?_
  refine x_aload_n 14 C dX12_fail_13 rfl rfl rfl ?_
  refine x_geti (j := 29) 17 C rfl (lt79 (by decide)) rfl rfl (by decide) inT12 tb_4_163 rfl dX12_fail_14 rfl (fun r14 => ?_)
  refine x_puti (j := 33) tyX12 20 C rfl (lt79 (by decide)) rfl rfl (by decide) inT12 tyX12_ok nmX12 tb_4_167 rfl rfl rfl dX12_fail_17 rfl (by omega) ?_
  refine x_vret C T dX12_fail_20 ?_
  refine PV_i ⟨fun h => ?_, fun h => ?_⟩ <;> first | rfl | (exfalso; omega) | (rw [show up σ 51 32 1 51 29 = σ 51 29 from up_i (by omega)])
