/-! towns that are tried -/
/-- what a morning of the model leaves as it is, but for the holes H -/
def KX (H : Nat → Nat → Prop) (σ σ' : Sig) : Prop := (∀ a b, a ≠ 51 → a ≠ 1051 → a ≠ 1064 → ¬ (65 ≤ a ∧ a ≤ 70) → ¬ H a b → σ' a b = σ a b) ∧ (∀ b, b < 19 ∨ 33 < b → ¬ H 51 b → σ' 51 b = σ 51 b)
theorem KX_refl {H : Nat → Nat → Prop} (σ : Sig) : KX H σ σ := ⟨fun _ _ _ _ _ _ _ => rfl, fun _ _ _ => rfl⟩
theorem KX_KM {H : Nat → Nat → Prop} {σ s1 s2 : Sig} (h : KX H σ s1) (h2 : KM s1 s2) : KX H σ s2 := ⟨fun a b c1 c2 c3 c4 c5 => (h2.1 a b c1 c2 c3 c4).trans (h.1 a b c1 c2 c3 c4 c5), fun b c1 c2 => (h2.2 b c1).trans (h.2 b c1 c2)⟩
theorem KM_KX {H : Nat → Nat → Prop} {σ s : Sig} (h : KM σ s) : KX H σ s := KX_KM (KX_refl σ) h
theorem KX_up {H : Nat → Nat → Prop} {σ s1 : Sig} {a i : Nat} {v : Int} (h : KX H σ s1) (hH : H a i) : KX H σ (up s1 a i v) := by
  refine ⟨fun x b c1 c2 c3 c4 c5 => ?_, fun b c1 c2 => ?_⟩
  · by_cases hx : x = a
    · subst hx
      rw [up_i (fun hb : b = i => c5 (by rw [hb]; exact hH))]
      exact h.1 x b c1 c2 c3 c4 c5
    · rw [up_r hx]; exact h.1 x b c1 c2 c3 c4 c5
  · by_cases hx : 51 = a
    · subst hx
      rw [up_i (fun hb : b = i => c2 (by rw [hb]; exact hH))]
      exact h.2 b c1 c2
    · rw [up_r hx]; exact h.2 b c1 c2
theorem KX_mono {H H' : Nat → Nat → Prop} {σ s : Sig} (h : KX H σ s) (hh : ∀ a b, H a b → ¬ H' a b → s a b = σ a b) : KX H' σ s := by
  refine ⟨fun a b c1 c2 c3 c4 c5 => ?_, fun b c1 c2 => ?_⟩
  · by_cases hH : H a b
    · exact hh a b hH c5
    · exact h.1 a b c1 c2 c3 c4 hH
  · by_cases hH : H 51 b
    · exact hh 51 b hH c2
    · exact h.2 b c1 hH
theorem KX_KM' {H : Nat → Nat → Prop} {σ s : Sig} (h : KX H σ s) (hh : ∀ a b, H a b → s a b = σ a b) : KM σ s := by
  have h2 : KX (fun _ _ => False) σ s := KX_mono h (fun a b c _ => hh a b c)
  exact ⟨fun a b c1 c2 c3 c4 => h2.1 a b c1 c2 c3 c4 (fun x => x), fun b c => h2.2 b c (fun x => x)⟩
theorem KX_row {H : Nat → Nat → Prop} {σ s : Sig} (h : KX H σ s) {a : Nat} (h1 : a ≠ 51) (h2 : a ≠ 1051) (h3 : a ≠ 1064) (h4 : ¬ (65 ≤ a ∧ a ≤ 70)) (h5 : ∀ b, ¬ H a b) : s a = σ a := funext fun b => h.1 a b h1 h2 h3 h4 (h5 b)
theorem cM_up55 {σ : Sig} {i : Nat} {v : Int} : cM (up σ 55 i v) = up (cM σ) 2 i v := by
  have e : mT (up σ 55 i v) = up (mT σ) 2 i v := by
    funext a b
    by_cases ha : a = 2
    · subst ha; rfl
    · rw [up_r ha]
      match a, ha with
      | 0, _ => rfl
      | 1, _ => rfl
      | 2, h => exact absurd rfl h
      | 3, _ => rfl
      | 4, _ => rfl
      | 5, _ => rfl
      | 6, _ => rfl
      | 7, _ => rfl
      | 8, _ => rfl
      | 9, _ => rfl
      | 10, _ => rfl
      | n + 11, _ => rfl
  unfold cM
  rw [e, cT_up2]
theorem cM_up61 {σ : Sig} {i : Nat} {v : Int} : cM (up σ 61 i v) = up (cM σ) 8 i v := by
  have e : mT (up σ 61 i v) = up (mT σ) 8 i v := by
    funext a b
    by_cases ha : a = 8
    · subst ha; rfl
    · rw [up_r ha]
      match a, ha with
      | 0, _ => rfl
      | 1, _ => rfl
      | 2, _ => rfl
      | 3, _ => rfl
      | 4, _ => rfl
      | 5, _ => rfl
      | 6, _ => rfl
      | 7, _ => rfl
      | 8, h => exact absurd rfl h
      | 9, _ => rfl
      | 10, _ => rfl
      | n + 11, _ => rfl
  unfold cM
  rw [e, cT_up8]
theorem cM_up62 {σ : Sig} {i : Nat} {v : Int} : cM (up σ 62 i v) = up (cM σ) 9 i v := by
  have e : mT (up σ 62 i v) = up (mT σ) 9 i v := by
    funext a b
    by_cases ha : a = 9
    · subst ha; rfl
    · rw [up_r ha]
      match a, ha with
      | 0, _ => rfl
      | 1, _ => rfl
      | 2, _ => rfl
      | 3, _ => rfl
      | 4, _ => rfl
      | 5, _ => rfl
      | 6, _ => rfl
      | 7, _ => rfl
      | 8, _ => rfl
      | 9, h => exact absurd rfl h
      | 10, _ => rfl
      | n + 11, _ => rfl
  unfold cM
  rw [e, cT_up9]
theorem cM_up8 {σ : Sig} {v : Int} : cM (up σ 51 8 v) = up (cM σ) 1 1 v := by
  have e : mT (up σ 51 8 v) = up (mT σ) 1 1 v := by
    funext a b
    by_cases ha : a = 1
    · subst ha
      match b with
      | 0 => rfl
      | 1 => rfl
      | 2 => rfl
      | 3 => rfl
      | 4 => rfl
      | 5 => rfl
      | 6 => rfl
      | 7 => rfl
      | 8 => rfl
      | n + 9 => rfl
    · rw [up_r ha]
      match a, ha with
      | 0, _ => rfl
      | 1, h => exact absurd rfl h
      | 2, _ => rfl
      | 3, _ => rfl
      | 4, _ => rfl
      | 5, _ => rfl
      | 6, _ => rfl
      | 7, _ => rfl
      | 8, _ => rfl
      | 9, _ => rfl
      | 10, _ => rfl
      | n + 11, _ => rfl
  unfold cM
  rw [e, cT_up1]
theorem MI_h {σ : Sig} (h : MI σ) {c : Nat} {v : Int} (hv : 0 ≤ v ∧ v ≤ 9) : MI (up σ 55 c v) := by
  obtain ⟨h1, h2, h3, h4, h5⟩ := h
  refine ⟨h1, h2, h3, h4, fun i => ⟨?_, (h5 i).2⟩⟩
  by_cases hi : i = c
  · subst hi; rw [up_s]; exact hv
  · rw [up_i hi]; exact (h5 i).1
theorem MI_f {σ : Sig} (h : MI σ) {v : Int} (hv : 0 ≤ v ∧ v ≤ 9) : MI (up σ 51 8 v) := by
  obtain ⟨h1, h2, h3, h4, h5⟩ := h
  exact ⟨by rw [up_s]; exact hv, h2, h3, h4, h5⟩
theorem MI_S {σ : Sig} (h : MI σ) {s : Nat} {m w : Int} (hm : 0 ≤ m ∧ m ≤ 23) (hw : 0 ≤ w ∧ w ≤ 3) : MI (up (up σ 62 s m) 61 s w) := by
  obtain ⟨h1, h2, h3, h4, h5⟩ := h
  refine ⟨h1, h2, h3, h4, fun i => ?_⟩
  obtain ⟨a1, a2, a3, a4, a5, a6, a7, a8, a9⟩ := h5 i
  refine ⟨a1, a2, a3, a4, a5, a6, ?_, ?_, a9⟩
  · by_cases hi : i = s
    · subst hi; rw [up_s]; exact hw
    · rw [up_i hi, up_r (by omega)]; exact a7
  · rw [up_r (by omega)]
    by_cases hi : i = s
    · subst hi; rw [up_s]; exact hm
    · rw [up_i hi]; exact a8
theorem MI_61 {σ : Sig} (h : MI σ) {s : Nat} {w : Int} (hw : 0 ≤ w ∧ w ≤ 3) : MI (up σ 61 s w) := by
  obtain ⟨h1, h2, h3, h4, h5⟩ := h
  refine ⟨h1, h2, h3, h4, fun i => ?_⟩
  obtain ⟨a1, a2, a3, a4, a5, a6, a7, a8, a9⟩ := h5 i
  refine ⟨a1, a2, a3, a4, a5, a6, ?_, a8, a9⟩
  by_cases hi : i = s
  · subst hi; rw [up_s]; exact hw
  · rw [up_i hi]; exact a7
theorem MI_62 {σ : Sig} (h : MI σ) {s : Nat} {w : Int} (hw : 0 ≤ w ∧ w ≤ 23) : MI (up σ 62 s w) := by
  obtain ⟨h1, h2, h3, h4, h5⟩ := h
  refine ⟨h1, h2, h3, h4, fun i => ?_⟩
  obtain ⟨a1, a2, a3, a4, a5, a6, a7, a8, a9⟩ := h5 i
  refine ⟨a1, a2, a3, a4, a5, a6, a7, ?_, a9⟩
  by_cases hi : i = s
  · subst hi; rw [up_s]; exact hw
  · rw [up_i hi]; exact a8
theorem MW_up {X : Nat → RuT} {N : Nat} {σ : Sig} {a i : Nat} {v : Int} (h : MW X N σ) (hI : MI (up σ a i v)) (ha : a ≠ 52 ∧ a ≠ 53 ∧ a ≠ 1064 ∧ a ≠ 65) (hb : ¬ (a = 51 ∧ i = 4)) : MW X N (up σ a i v) := by
  refine ⟨hI, HM_keep h.2.1 (up_row (by omega)) (up_row (by omega)), ?_, KV_keep h.2.2.2 (up_row (by omega)) (up_row (by omega))⟩
  by_cases h51 : a = 51
  · subst h51
    rw [up_i (by omega)]
    exact h.2.2.1
  · rw [up_r (by omega)]
    exact h.2.2.1
/-- the holes of one sleeper's turning and waking -/
def HT (s : Nat) (a b : Nat) : Prop := (a = 61 ∨ a = 62) ∧ b = s
/-- and what is best -/
def HS (s : Nat) (a b : Nat) : Prop := HT s a b ∨ (a = 51 ∧ 41 ≤ b ∧ b ≤ 43)
theorem HT_HS {σ s1 : Sig} {s : Nat} (h : KX (HT s) σ s1) : KX (HS s) σ s1 := KX_mono h (fun a b h1 h2 => absurd (Or.inl h1) h2)
theorem KX_cS {σ u : Sig} {s : Nat} {m w : Int} (h : KX (HS s) σ u) (hm : u 62 s = m) (hw : u 61 s = w) : cM u = tS (cM σ) s m w := by
  have e : mT u = mT (up (up σ 62 s m) 61 s w) := by
    refine mT_keep (fun a h1 h2 => ?_) (fun b hb => ?_)
    · funext b
      by_cases h61 : a = 61
      · subst h61
        by_cases hbs : b = s
        · subst hbs; rw [up_s]; exact hw
        · rw [up_i hbs, up_r (by omega)]; exact h.1 61 b (by omega) (by omega) (by omega) (by omega) (fun hh => by unfold HS HT at hh; omega)
      · rw [up_r h61]
        by_cases h62 : a = 62
        · subst h62
          by_cases hbs : b = s
          · subst hbs; rw [up_s]; exact hm
          · rw [up_i hbs]; exact h.1 62 b (by omega) (by omega) (by omega) (by omega) (fun hh => by unfold HS HT at hh; omega)
        · rw [up_r h62]; exact h.1 a b (by omega) (by omega) (by omega) (by omega) (fun hh => by unfold HS HT at hh; omega)
    · rw [up_r (by omega), up_r (by omega)]
      exact h.2 b (by omega) (fun hh => by unfold HS HT at hh; omega)
  unfold cM
  rw [e]
  show cM (up (up σ 62 s m) 61 s w) = _
  rw [cM_up61, cM_up62]
  rfl
set_option maxHeartbeats 4000000 in
set_option maxRecDepth 100000 in
theorem c_X12_wall {l : Launch} {G : Gt} {ρ : Nat → Nat} {tc : Nat} {cl : Nat → Nat} {σ : Sig} {X : Nat → RuT} {N : Nat} {v q : Int} (hW : MW X N σ) (hv : -2147483648 ≤ v ∧ v ≤ 2147483647) (hq : -2147483648 ≤ q ∧ q ≤ 2147483647) : MX l yX12_wall cX12_wall 8 (some .int) 56 1353 G (NN tc) ρ (shp tc cl) [.ref (ρ 51), .int (iZ v), .int (iZ q)] σ (PI (fun z σ' => KM σ σ' ∧ KV X N σ' ∧ z = rWall X (cM σ) v q)) := by
  refine MX_of [some (.ref (ρ 51)), some (.int (iZ v)), some (.int (iZ q)), none, none, none, none, none] (by decide +kernel) rfl rfl (Nat.le_of_ble_eq_true rfl) ?_
  intro K hKl C T hRng
  subst hKl
  have hT := hW.1
  have h3 := hT.2.2.1
  have h8 := hT.2.2.2.1
  have hW_σ := hW
  have f18_σ : σ 51 18 = σ 51 18 := rfl
  have hu_σ : cM σ = cM σ := rfl
  have hTc := TI_cM hT
  
  refine x_aload_n 1 C dX12_wall_0 rfl rfl rfl ?_
  refine x_iload_n 2 C dX12_wall_1 rfl rfl rfl ?_
  refine x_callVe 5 C dX12_wall_2 rfl (c_X12_isOne (by omega) hT) rfl (lt79 (by decide)) rfl tb_5_101 tb_5_103 tb_0_38 tb_1_20 tb_5_104 (na := 1) (by decide +kernel) rfl ⟨by decide, by decide⟩ rfl (Nat.le_of_ble_eq_true rfl) rfl (fun r2 => ?_)
  first
    | refine x_ifb_eq 21 8 C dX12_wall_5 rfl rfl (fun h5 => ?_) (fun h5 => ?_)
    | refine x_if_eq 21 8 C dX12_wall_5 rfl rfl (by omega) (fun h5 => ?_) (fun h5 => ?_)
  · refine x_bipush 23 C dX12_wall_21 rfl rfl ?_
    refine x_iret C T dX12_wall_23 ?_
    refine PI_i (by omega) ⟨?_, ?_, ?_⟩
    · first | exact KM_refl σ | exact hM1
    · first | exact hW.2.2.2 | exact hV1
    · unfold rWall
      first
        | (rw [if_neg (by rw [cM_18]; omega)]; done)
        | (rw [if_pos (by rw [cM_18]; omega), hss, hqq, show (36 : Nat) = c by omega]; exact hfo)
  refine x_aload_n 9 C dX12_wall_8 rfl rfl rfl ?_
  refine x_iload_n 10 C dX12_wall_9 rfl rfl rfl ?_
  refine x_callVe 13 C dX12_wall_10 rfl (c_X12_isOne (by omega) hT) rfl (lt79 (by decide)) rfl tb_5_101 tb_5_103 tb_0_38 tb_1_20 tb_5_104 (na := 1) (by decide +kernel) rfl ⟨by decide, by decide⟩ rfl (Nat.le_of_ble_eq_true rfl) rfl (fun r10 => ?_)
  first
    | refine x_ifb_eq 21 16 C dX12_wall_13 rfl rfl (fun h13 => ?_) (fun h13 => ?_)
    | refine x_if_eq 21 16 C dX12_wall_13 rfl rfl (by omega) (fun h13 => ?_) (fun h13 => ?_)
  · refine x_bipush 23 C dX12_wall_21 rfl rfl ?_
    refine x_iret C T dX12_wall_23 ?_
    refine PI_i (by omega) ⟨?_, ?_, ?_⟩
    · first | exact KM_refl σ | exact hM1
    · first | exact hW.2.2.2 | exact hV1
    · unfold rWall
      first
        | (rw [if_neg (by rw [cM_18]; omega)]; done)
        | (rw [if_pos (by rw [cM_18]; omega), hss, hqq, show (36 : Nat) = c by omega]; exact hfo)
  refine x_iload_n 17 C dX12_wall_16 rfl rfl rfl ?_
  refine x_iload_n 18 C dX12_wall_17 rfl rfl rfl ?_
  refine x_icmp_ne 24 21 C dX12_wall_18 rfl rfl (by omega) (by omega) (fun h18 => ?_) (fun h18 => ?_)
  rotate_left
  · refine x_bipush 23 C dX12_wall_21 rfl rfl ?_
    refine x_iret C T dX12_wall_23 ?_
    refine PI_i (by omega) ⟨?_, ?_, ?_⟩
    · first | exact KM_refl σ | exact hM1
    · first | exact hW.2.2.2 | exact hV1
    · unfold rWall
      first
        | (rw [if_neg (by rw [cM_18]; omega)]; done)
        | (rw [if_pos (by rw [cM_18]; omega), hss, hqq, show (36 : Nat) = c by omega]; exact hfo)
  obtain ⟨s, rfl⟩ : ∃ s : Nat, v = (s : Int) := ⟨v.toNat, by omega⟩
  have hss : (s : Int).toNat = s := Int.toNat_natCast s
  obtain ⟨q, rfl⟩ : ∃ s : Nat, q = (s : Int) := ⟨q.toNat, by omega⟩
  have hqq : (q : Int).toNat = q := Int.toNat_natCast q
  refine x_aload_n 25 C dX12_wall_24 rfl rfl rfl ?_
  refine x_callVv 28 C dX12_wall_25 rfl (c_X12_morning (X := X) (N := N) hW_σ) rfl (lt79 (by decide)) rfl tb_5_234 tb_5_236 tb_0_60 tb_1_20 tb_5_237 (na := 0) (by decide +kernel) rfl ⟨by decide, by decide⟩ rfl (Nat.le_of_ble_eq_true rfl) rfl (fun s25 hq25 hR25 => ?_)
  obtain ⟨hM_25, hV_25, hL_25, hD_25⟩ := hq25
  have hW_25 := KM_MW hM_25 hV_25 hW_σ
  have e18_25 : s25 51 18 = σ 51 18 := (hM_25.2 18 (by omega)).trans f18_σ
  have e13_25 : s25 51 13 = σ 51 13 := hM_25.2 13 (by omega)
  have e62_25 : s25 62 = σ 62 := KM_row hM_25 (by omega) (by omega) (by omega) (by omega)
  refine x_aload_n 29 C dX12_wall_28 rfl rfl rfl ?_
  refine x_iload_n 30 C dX12_wall_29 rfl rfl rfl ?_
  refine x_callVi 33 C dX12_wall_30 rfl (c_X12_leftOf (X := X) (N := N) (s := s) (d := hadT X (cM σ) s) hW_25 (by omega) (hD_25 s (by omega)).1 (by rw [e13_25]; exact HDm_q hW_σ.1 hD_25 (by omega))) rfl (lt79 (by decide)) rfl tb_6_15 tb_6_17 tb_0_63 tb_1_20 tb_6_18 (na := 1) (by decide +kernel) rfl ⟨by decide, by decide⟩ rfl (Nat.le_of_ble_eq_true rfl) rfl (fun z30 s30 hz30 hq30 hR30 => ?_)
  obtain ⟨hf_30, hV_30, jj_30⟩ := hq30
  rw [KM_cM hM_25, e62_25] at jj_30
  have j_30 : z30 = leftT X (cM σ) s := jj_30
  rw [hu_σ] at j_30
  have hM_30 := KM_trans hM_25 (FRk_KM hf_30)
  have hW_30 := KM_MW hM_30 hV_30 hW_σ
  have hD_30 := HDm_row hD_25 (FRk_row hf_30 (a := 69) (by omega) (by omega) (by omega) (by omega)) (FRk_row hf_30 (a := 70) (by omega) (by omega) (by omega) (by omega))
  have e18_30 : s30 51 18 = σ 51 18 := (hM_30.2 18 (by omega)).trans f18_σ
  have e13_30 : s30 51 13 = σ 51 13 := hM_30.2 13 (by omega)
  have e62_30 : s30 62 = σ 62 := KM_row hM_30 (by omega) (by omega) (by omega) (by omega)
  refine x_istore_n3 34 C dX12_wall_33 rfl rfl ?_
  refine x_aload_n 35 C dX12_wall_34 rfl rfl rfl ?_
  refine x_iload_n 36 C dX12_wall_35 rfl rfl rfl ?_
  refine x_callVi 39 C dX12_wall_36 rfl (c_X12_leftOf (X := X) (N := N) (s := q) (d := hadT X (cM σ) q) hW_30 (by omega) (hD_30 q (by omega)).1 (by rw [e13_30]; exact HDm_q hW_σ.1 hD_30 (by omega))) rfl (lt79 (by decide)) rfl tb_6_15 tb_6_17 tb_0_63 tb_1_20 tb_6_18 (na := 1) (by decide +kernel) rfl ⟨by decide, by decide⟩ rfl (Nat.le_of_ble_eq_true rfl) rfl (fun z36 s36 hz36 hq36 hR36 => ?_)
  obtain ⟨hf_36, hV_36, jj_36⟩ := hq36
  rw [KM_cM hM_30, e62_30] at jj_36
  have j_36 : z36 = leftT X (cM σ) q := jj_36
  rw [hu_σ] at j_36
  have hM_36 := KM_trans hM_30 (FRk_KM hf_36)
  have hW_36 := KM_MW hM_36 hV_36 hW_σ
  have hD_36 := HDm_row hD_30 (FRk_row hf_36 (a := 69) (by omega) (by omega) (by omega) (by omega)) (FRk_row hf_36 (a := 70) (by omega) (by omega) (by omega) (by omega))
  have e18_36 : s36 51 18 = σ 51 18 := (hM_36.2 18 (by omega)).trans f18_σ
  have e13_36 : s36 51 13 = σ 51 13 := hM_36.2 13 (by omega)
  have e62_36 : s36 62 = σ 62 := KM_row hM_36 (by omega) (by omega) (by omega) (by omega)
  refine x_istore_4 41 C dX12_wall_39 rfl rfl ?_
  refine x_iconst 42 C dX12_wall_41 rfl ?_
  refine x_istore_5 44 C dX12_wall_42 rfl rfl ?_
  refine x_iconst 45 C dX12_wall_44 rfl ?_
  refine x_istore_6 47 C dX12_wall_45 rfl rfl ?_
  have L47 : ∀ (mz : Nat) (c : Nat) (y ls fo : Int) (s1 : Sig) (x7 : Option Value), mz = 36 - c → (c ≤ 36 ∧ y = c ∧ KM σ s1 ∧ KV X N s1 ∧ ls = (walF X (cM σ) s q c).2 ∧ fo = (walF X (cM σ) s q c).1) → Ex K G (NN tc) ρ (shp tc cl) 47 [some (.ref (ρ 51)), some (.int (iZ (s : Int))), some (.int (iZ (q : Int))), some (.int (iZ (leftT X (cM σ) s))), some (.int (iZ ls)), some (.int (iZ fo)), some (.int (iZ y)), x7] [] s1 := by
    intro mz
    induction mz using Nat.strongRecOn with
    | ind mz ih =>
      intro c y ls fo s1 x7 hmz hinv
      obtain ⟨hc, rfl, hM1, hV1, hls, hfo⟩ := hinv
      have hwi := walF_in (X := X) hTc (s := s) (o := q) c
      have hown := leftT_in (X := X) (s := s) hTc
      have hW1 := KM_MW hM1 hV1 hW
      have hcc : (c : Int).toNat = c := Int.toNat_natCast c
      have hqc := (hW1.1.2.2.2.2 c).1
      refine x_iload 49 C dX12_wall_47 rfl rfl ?_
      refine x_bipush 51 C dX12_wall_49 rfl rfl ?_
      refine x_icmp_ge 121 54 C dX12_wall_51 rfl rfl (by omega) (by omega) (fun h51 => ?_) (fun h51 => ?_)
      · refine x_iload 123 C dX12_wall_121 rfl rfl ?_
        refine x_iret C T dX12_wall_123 ?_
        refine PI_i (by omega) ⟨?_, ?_, ?_⟩
        · first | exact KM_refl σ | exact hM1
        · first | exact hW.2.2.2 | exact hV1
        · unfold rWall
          first
            | (rw [if_neg (by rw [cM_18]; omega)]; done)
            | (rw [if_pos (by rw [cM_18]; omega), hss, hqq, show (36 : Nat) = c by omega]; exact hfo)
      refine x_aload_n 55 C dX12_wall_54 rfl rfl rfl ?_
      refine x_getr (j := 7) 58 C rfl (lt79 (by decide)) rfl rfl (by decide) inT12 tb_4_141 rfl dX12_wall_55 rfl ?_
      refine x_iload 60 C dX12_wall_58 rfl rfl ?_
      refine x_iald 61 C rfl (lt79 (by decide)) dX12_wall_60 rfl (by omega) (by omega) (fun r60 => ?_)
      rw [hcc] at r60 ⊢
      refine x_istore_7 63 C dX12_wall_61 rfl rfl ?_
      refine x_aload_n 64 C dX12_wall_63 rfl rfl rfl ?_
      refine x_getr (j := 7) 67 C rfl (lt79 (by decide)) rfl rfl (by decide) inT12 tb_4_141 rfl dX12_wall_64 rfl ?_
      refine x_iload 69 C dX12_wall_67 rfl rfl ?_
      refine x_bipush 71 C dX12_wall_69 rfl rfl ?_
      refine x_iast 72 C rfl (lt79 (by decide)) dX12_wall_71 rfl (by omega) (by omega) (by omega) ?_
      rw [hcc]
      obtain ⟨u, hue⟩ : ∃ u, up s1 55 c 9 = u := ⟨_, rfl⟩
      rw [hue]
      have hW_u : MW X N u := by rw [← hue]; exact MW_up hW1 (MI_h hW1.1 (by omega)) (by omega) (by omega)
      have f18_u : u 51 18 = σ 51 18 := by rw [← hue]; rw [up_r (by omega)]; exact hM1.2 18 (by omega)
      have hu_u : cM u = up (cM σ) 2 c 9 := by rw [← hue]; rw [cM_up55, KM_cM hM1]
      have hXu : KX (fun a b => a = 55 ∧ b = c) σ u := by rw [← hue]; exact KX_up (KM_KX hM1) ⟨rfl, rfl⟩
      refine x_aload_n 73 C dX12_wall_72 rfl rfl rfl ?_
      have J106 : ∀ (ls3 fo3 : Int) (s3 : Sig), (KM u s3 ∧ KV X N s3 ∧ ls3 = (walF X (cM σ) s q (c + 1)).2 ∧ fo3 = (walF X (cM σ) s q (c + 1)).1) → Ex K G (NN tc) ρ (shp tc cl) 106 [some (.ref (ρ 51)), some (.int (iZ (s : Int))), some (.int (iZ (q : Int))), some (.int (iZ (leftT X (cM σ) s))), some (.int (iZ ls3)), some (.int (iZ fo3)), some (.int (iZ (c : Int))), some (.int (iZ (s1 55 c)))] [] s3 := by
        intro ls3 fo3 s3 hinv
        obtain ⟨hM3, hV3, hls3, hfo3⟩ := hinv
        refine x_aload_n 107 C dX12_wall_106 rfl rfl rfl ?_
        refine x_getr (j := 7) 110 C rfl (lt79 (by decide)) rfl rfl (by decide) inT12 tb_4_141 rfl dX12_wall_107 rfl ?_
        refine x_iload 112 C dX12_wall_110 rfl rfl ?_
        refine x_iload 114 C dX12_wall_112 rfl rfl ?_
        refine x_iast 115 C rfl (lt79 (by decide)) dX12_wall_114 rfl (by omega) (by omega) (by omega) ?_
        refine x_iinc_6 118 C dX12_wall_115 rfl rfl ?_
        refine x_goto 47 C dX12_wall_118 rfl ?_
        refine ih _ (by omega) (c + 1) _ _ _ _ _ rfl ⟨by omega, by omega, ?_, KV_keep hV3 (up_row (by omega)) (up_row (by omega)), hls3, hfo3⟩
        rw [hcc]
        refine KX_KM' (KX_up (KX_KM hXu hM3) ⟨rfl, rfl⟩) (fun a b hh => ?_)
        obtain ⟨rfl, rfl⟩ := hh
        rw [up_s]
        exact hM1.1 55 b (by omega) (by omega) (by omega) (by omega)
      refine x_callVv 76 C dX12_wall_73 rfl (c_X12_morning (X := X) (N := N) hW_u) rfl (lt79 (by decide)) rfl tb_5_234 tb_5_236 tb_0_60 tb_1_20 tb_5_237 (na := 0) (by decide +kernel) rfl ⟨by decide, by decide⟩ rfl (Nat.le_of_ble_eq_true rfl) rfl (fun s73 hq73 hR73 => ?_)
      obtain ⟨hM_73, hV_73, hL_73, hD_73⟩ := hq73
      have hW_73 := KM_MW hM_73 hV_73 hW_u
      have e18_73 : s73 51 18 = σ 51 18 := (hM_73.2 18 (by omega)).trans f18_u
      have e13_73 : s73 51 13 = u 51 13 := hM_73.2 13 (by omega)
      have e62_73 : s73 62 = u 62 := KM_row hM_73 (by omega) (by omega) (by omega) (by omega)
      refine x_aload_n 77 C dX12_wall_76 rfl rfl rfl ?_
      refine x_iload_n 78 C dX12_wall_77 rfl rfl rfl ?_
      refine x_callVi 81 C dX12_wall_78 rfl (c_X12_leftOf (X := X) (N := N) (s := q) (d := hadT X (cM u) q) hW_73 (by omega) (hD_73 q (by omega)).1 (by rw [e13_73]; exact HDm_q hW_u.1 hD_73 (by omega))) rfl (lt79 (by decide)) rfl tb_6_15 tb_6_17 tb_0_63 tb_1_20 tb_6_18 (na := 1) (by decide +kernel) rfl ⟨by decide, by decide⟩ rfl (Nat.le_of_ble_eq_true rfl) rfl (fun z78 s78 hz78 hq78 hR78 => ?_)
      obtain ⟨hf_78, hV_78, jj_78⟩ := hq78
      rw [KM_cM hM_73, e62_73] at jj_78
      have j_78 : z78 = leftT X (cM u) q := jj_78
      rw [hu_u] at j_78
      have hM_78 := KM_trans hM_73 (FRk_KM hf_78)
      have hW_78 := KM_MW hM_78 hV_78 hW_u
      have hD_78 := HDm_row hD_73 (FRk_row hf_78 (a := 69) (by omega) (by omega) (by omega) (by omega)) (FRk_row hf_78 (a := 70) (by omega) (by omega) (by omega) (by omega))
      have e18_78 : s78 51 18 = σ 51 18 := (hM_78.2 18 (by omega)).trans f18_u
      have e13_78 : s78 51 13 = u 51 13 := hM_78.2 13 (by omega)
      have e62_78 : s78 62 = u 62 := KM_row hM_78 (by omega) (by omega) (by omega) (by omega)
      refine x_iload 83 C dX12_wall_81 rfl rfl ?_
      refine x_icmp_ge 106 86 C dX12_wall_83 rfl rfl (by omega) (by omega) (fun h83 => ?_) (fun h83 => ?_)
      · have hst : walF X (cM σ) s q (c + 1) = walF X (cM σ) s q c := by simp only [walF]; rw [if_neg (by omega)]
        first | exact J106 _ _ _ ⟨hM_78, hV_78, by rw [hst]; exact hls, by rw [hst]; exact hfo⟩ | exact J106 _ _ _ ⟨hM_88, hV_88, by rw [hst]; exact hls, by rw [hst]; exact hfo⟩ | exact J106 _ _ _ ⟨hM_101, hV_101, by rw [hst]; exact j_101, by rw [hst]⟩
      refine x_aload_n 87 C dX12_wall_86 rfl rfl rfl ?_
      refine x_iload_n 88 C dX12_wall_87 rfl rfl rfl ?_
      refine x_callVi 91 C dX12_wall_88 rfl (c_X12_leftOf (X := X) (N := N) (s := s) (d := hadT X (cM u) s) hW_78 (by omega) (hD_78 s (by omega)).1 (by rw [e13_78]; exact HDm_q hW_u.1 hD_78 (by omega))) rfl (lt79 (by decide)) rfl tb_6_15 tb_6_17 tb_0_63 tb_1_20 tb_6_18 (na := 1) (by decide +kernel) rfl ⟨by decide, by decide⟩ rfl (Nat.le_of_ble_eq_true rfl) rfl (fun z88 s88 hz88 hq88 hR88 => ?_)
      obtain ⟨hf_88, hV_88, jj_88⟩ := hq88
      rw [KM_cM hM_78, e62_78] at jj_88
      have j_88 : z88 = leftT X (cM u) s := jj_88
      rw [hu_u] at j_88
      have hM_88 := KM_trans hM_78 (FRk_KM hf_88)
      have hW_88 := KM_MW hM_88 hV_88 hW_u
      have hD_88 := HDm_row hD_78 (FRk_row hf_88 (a := 69) (by omega) (by omega) (by omega) (by omega)) (FRk_row hf_88 (a := 70) (by omega) (by omega) (by omega) (by omega))
      have e18_88 : s88 51 18 = σ 51 18 := (hM_88.2 18 (by omega)).trans f18_u
      have e13_88 : s88 51 13 = u 51 13 := hM_88.2 13 (by omega)
      have e62_88 : s88 62 = u 62 := KM_row hM_88 (by omega) (by omega) (by omega) (by omega)
      refine x_iload_n 92 C dX12_wall_91 rfl rfl rfl ?_
      refine x_icmp_lt 106 95 C dX12_wall_92 rfl rfl (by omega) (by omega) (fun h92 => ?_) (fun h92 => ?_)
      · have hst : walF X (cM σ) s q (c + 1) = walF X (cM σ) s q c := by simp only [walF]; rw [if_neg (by omega)]
        first | exact J106 _ _ _ ⟨hM_78, hV_78, by rw [hst]; exact hls, by rw [hst]; exact hfo⟩ | exact J106 _ _ _ ⟨hM_88, hV_88, by rw [hst]; exact hls, by rw [hst]; exact hfo⟩ | exact J106 _ _ _ ⟨hM_101, hV_101, by rw [hst]; exact j_101, by rw [hst]⟩
      have hst : walF X (cM σ) s q (c + 1) = ((c : Int), leftT X (up (cM σ) 2 c 9) q) := by simp only [walF]; rw [if_pos (by omega)]
      refine x_iload 97 C dX12_wall_95 rfl rfl ?_
      refine x_istore_5 99 C dX12_wall_97 rfl rfl ?_
      refine x_aload_n 100 C dX12_wall_99 rfl rfl rfl ?_
      refine x_iload_n 101 C dX12_wall_100 rfl rfl rfl ?_
      refine x_callVi 104 C dX12_wall_101 rfl (c_X12_leftOf (X := X) (N := N) (s := q) (d := hadT X (cM u) q) hW_88 (by omega) (hD_88 q (by omega)).1 (by rw [e13_88]; exact HDm_q hW_u.1 hD_88 (by omega))) rfl (lt79 (by decide)) rfl tb_6_15 tb_6_17 tb_0_63 tb_1_20 tb_6_18 (na := 1) (by decide +kernel) rfl ⟨by decide, by decide⟩ rfl (Nat.le_of_ble_eq_true rfl) rfl (fun z101 s101 hz101 hq101 hR101 => ?_)
      obtain ⟨hf_101, hV_101, jj_101⟩ := hq101
      rw [KM_cM hM_88, e62_88] at jj_101
      have j_101 : z101 = leftT X (cM u) q := jj_101
      rw [hu_u] at j_101
      have hM_101 := KM_trans hM_88 (FRk_KM hf_101)
      have hW_101 := KM_MW hM_101 hV_101 hW_u
      have hD_101 := HDm_row hD_88 (FRk_row hf_101 (a := 69) (by omega) (by omega) (by omega) (by omega)) (FRk_row hf_101 (a := 70) (by omega) (by omega) (by omega) (by omega))
      have e18_101 : s101 51 18 = σ 51 18 := (hM_101.2 18 (by omega)).trans f18_u
      have e13_101 : s101 51 13 = u 51 13 := hM_101.2 13 (by omega)
      have e62_101 : s101 62 = u 62 := KM_row hM_101 (by omega) (by omega) (by omega) (by omega)
      refine x_istore_4 106 C dX12_wall_104 rfl rfl ?_
      first | exact J106 _ _ _ ⟨hM_78, hV_78, by rw [hst]; exact hls, by rw [hst]; exact hfo⟩ | exact J106 _ _ _ ⟨hM_88, hV_88, by rw [hst]; exact hls, by rw [hst]; exact hfo⟩ | exact J106 _ _ _ ⟨hM_101, hV_101, by rw [hst]; exact j_101, by rw [hst]⟩
  rw [j_30, j_36]
  exact L47 _ 0 _ _ _ _ _ rfl ⟨by omega, rfl, hM_36, hV_36, rfl, rfl⟩

set_option maxHeartbeats 4000000 in
set_option maxRecDepth 100000 in
theorem c_X12_fell {l : Launch} {G : Gt} {ρ : Nat → Nat} {tc : Nat} {cl : Nat → Nat} {σ : Sig} {X : Nat → RuT} {N : Nat} {v : Int} (hW : MW X N σ) (hv : -2147483648 ≤ v ∧ v ≤ 2147483647) : MX l yX12_fell cX12_fell 6 (some .int) 56 1353 G (NN tc) ρ (shp tc cl) [.ref (ρ 51), .int (iZ v)] σ (PI (fun z σ' => KM σ σ' ∧ KV X N σ' ∧ z = rFell X (cM σ) v)) := by
  refine MX_of [some (.ref (ρ 51)), some (.int (iZ v)), none, none, none, none] (by decide +kernel) rfl rfl (Nat.le_of_ble_eq_true rfl) ?_
  intro K hKl C T hRng
  subst hKl
  have hT := hW.1
  have h3 := hT.2.2.1
  have h8 := hT.2.2.2.1
  have hW_σ := hW
  have f18_σ : σ 51 18 = σ 51 18 := rfl
  have hu_σ : cM σ = cM σ := rfl
  have hTc := TI_cM hT
  
  refine x_aload_n 1 C dX12_fell_0 rfl rfl rfl ?_
  refine x_iload_n 2 C dX12_fell_1 rfl rfl rfl ?_
  refine x_callVe 5 C dX12_fell_2 rfl (c_X12_isOne (by omega) hT) rfl (lt79 (by decide)) rfl tb_5_101 tb_5_103 tb_0_38 tb_1_20 tb_5_104 (na := 1) (by decide +kernel) rfl ⟨by decide, by decide⟩ rfl (Nat.le_of_ble_eq_true rfl) rfl (fun r2 => ?_)
  first
    | refine x_ifb_ne 11 8 C dX12_fell_5 rfl rfl (fun h5 => ?_) (fun h5 => ?_)
    | refine x_if_ne 11 8 C dX12_fell_5 rfl rfl (by omega) (fun h5 => ?_) (fun h5 => ?_)
  · obtain ⟨s, rfl⟩ : ∃ s : Nat, v = (s : Int) := ⟨v.toNat, by omega⟩
    have hss : (s : Int).toNat = s := Int.toNat_natCast s
    refine x_aload_n 12 C dX12_fell_11 rfl rfl rfl ?_
    refine x_callVv 15 C dX12_fell_12 rfl (c_X12_morning (X := X) (N := N) hW_σ) rfl (lt79 (by decide)) rfl tb_5_234 tb_5_236 tb_0_60 tb_1_20 tb_5_237 (na := 0) (by decide +kernel) rfl ⟨by decide, by decide⟩ rfl (Nat.le_of_ble_eq_true rfl) rfl (fun s12 hq12 hR12 => ?_)
    obtain ⟨hM_12, hV_12, hL_12, hD_12⟩ := hq12
    have hW_12 := KM_MW hM_12 hV_12 hW_σ
    have e18_12 : s12 51 18 = σ 51 18 := (hM_12.2 18 (by omega)).trans f18_σ
    have e13_12 : s12 51 13 = σ 51 13 := hM_12.2 13 (by omega)
    have e62_12 : s12 62 = σ 62 := KM_row hM_12 (by omega) (by omega) (by omega) (by omega)
    refine x_aload_n 16 C dX12_fell_15 rfl rfl rfl ?_
    refine x_iload_n 17 C dX12_fell_16 rfl rfl rfl ?_
    refine x_callVi 20 C dX12_fell_17 rfl (c_X12_leftOf (X := X) (N := N) (s := s) (d := hadT X (cM σ) s) hW_12 (by omega) (hD_12 s (by omega)).1 (by rw [e13_12]; exact HDm_q hW_σ.1 hD_12 (by omega))) rfl (lt79 (by decide)) rfl tb_6_15 tb_6_17 tb_0_63 tb_1_20 tb_6_18 (na := 1) (by decide +kernel) rfl ⟨by decide, by decide⟩ rfl (Nat.le_of_ble_eq_true rfl) rfl (fun z17 s17 hz17 hq17 hR17 => ?_)
    obtain ⟨hf_17, hV_17, jj_17⟩ := hq17
    rw [KM_cM hM_12, e62_12] at jj_17
    have j_17 : z17 = leftT X (cM σ) s := jj_17
    rw [hu_σ] at j_17
    have hM_17 := KM_trans hM_12 (FRk_KM hf_17)
    have hW_17 := KM_MW hM_17 hV_17 hW_σ
    have hD_17 := HDm_row hD_12 (FRk_row hf_17 (a := 69) (by omega) (by omega) (by omega) (by omega)) (FRk_row hf_17 (a := 70) (by omega) (by omega) (by omega) (by omega))
    have e18_17 : s17 51 18 = σ 51 18 := (hM_17.2 18 (by omega)).trans f18_σ
    have e13_17 : s17 51 13 = σ 51 13 := hM_17.2 13 (by omega)
    have e62_17 : s17 62 = σ 62 := KM_row hM_17 (by omega) (by omega) (by omega) (by omega)
    refine x_istore_n2 21 C dX12_fell_20 rfl rfl ?_
    refine x_iconst 22 C dX12_fell_21 rfl ?_
    refine x_istore_n3 23 C dX12_fell_22 rfl rfl ?_
    refine x_iconst 24 C dX12_fell_23 rfl ?_
    refine x_istore_4 26 C dX12_fell_24 rfl rfl ?_
    have L26 : ∀ (mz : Nat) (c : Nat) (y ls fo : Int) (s1 : Sig) (x5 : Option Value), mz = 36 - c → (c ≤ 36 ∧ y = c ∧ KM σ s1 ∧ KV X N s1 ∧ ls = (felF X (cM σ) s c).2 ∧ fo = (felF X (cM σ) s c).1) → Ex K G (NN tc) ρ (shp tc cl) 26 [some (.ref (ρ 51)), some (.int (iZ (s : Int))), some (.int (iZ ls)), some (.int (iZ fo)), some (.int (iZ y)), x5] [] s1 := by
      intro mz
      induction mz using Nat.strongRecOn with
      | ind mz ih =>
        intro c y ls fo s1 x5 hmz hinv
        obtain ⟨hc, rfl, hM1, hV1, hls, hfo⟩ := hinv
        have hwi := felF_in (X := X) hTc (s := s) c
        have hW1 := KM_MW hM1 hV1 hW
        have hcc : (c : Int).toNat = c := Int.toNat_natCast c
        have hqc := (hW1.1.2.2.2.2 c).1
        refine x_iload 28 C dX12_fell_26 rfl rfl ?_
        refine x_bipush 30 C dX12_fell_28 rfl rfl ?_
        refine x_icmp_ge 87 33 C dX12_fell_30 rfl rfl (by omega) (by omega) (fun h30 => ?_) (fun h30 => ?_)
        · refine x_iload_n 88 C dX12_fell_87 rfl rfl rfl ?_
          refine x_iret C T dX12_fell_88 ?_
          refine PI_i (by omega) ⟨?_, ?_, ?_⟩
          · first | exact KM_refl σ | exact hM1
          · first | exact hW.2.2.2 | exact hV1
          · unfold rFell
            first
              | (rw [if_neg (by rw [cM_18]; omega)]; done)
              | (rw [if_pos (by rw [cM_18]; omega), hss, show (36 : Nat) = c by omega]; exact hfo)
        refine x_aload_n 34 C dX12_fell_33 rfl rfl rfl ?_
        refine x_getr (j := 7) 37 C rfl (lt79 (by decide)) rfl rfl (by decide) inT12 tb_4_141 rfl dX12_fell_34 rfl ?_
        refine x_iload 39 C dX12_fell_37 rfl rfl ?_
        refine x_iald 40 C rfl (lt79 (by decide)) dX12_fell_39 rfl (by omega) (by omega) (fun r39 => ?_)
        rw [hcc] at r39 ⊢
        refine x_istore_5 42 C dX12_fell_40 rfl rfl ?_
        refine x_aload_n 43 C dX12_fell_42 rfl rfl rfl ?_
        refine x_getr (j := 7) 46 C rfl (lt79 (by decide)) rfl rfl (by decide) inT12 tb_4_141 rfl dX12_fell_43 rfl ?_
        refine x_iload 48 C dX12_fell_46 rfl rfl ?_
        refine x_iconst 49 C dX12_fell_48 rfl ?_
        refine x_iast 50 C rfl (lt79 (by decide)) dX12_fell_49 rfl (by omega) (by omega) (by omega) ?_
        rw [hcc]
        obtain ⟨u, hue⟩ : ∃ u, up s1 55 c 0 = u := ⟨_, rfl⟩
        rw [hue]
        have hW_u : MW X N u := by rw [← hue]; exact MW_up hW1 (MI_h hW1.1 (by omega)) (by omega) (by omega)
        have f18_u : u 51 18 = σ 51 18 := by rw [← hue]; rw [up_r (by omega)]; exact hM1.2 18 (by omega)
        have hu_u : cM u = up (cM σ) 2 c 0 := by rw [← hue]; rw [cM_up55, KM_cM hM1]
        have hXu : KX (fun a b => a = 55 ∧ b = c) σ u := by rw [← hue]; exact KX_up (KM_KX hM1) ⟨rfl, rfl⟩
        refine x_aload_n 51 C dX12_fell_50 rfl rfl rfl ?_
        have J72 : ∀ (ls3 fo3 : Int) (s3 : Sig), (KM u s3 ∧ KV X N s3 ∧ ls3 = (felF X (cM σ) s (c + 1)).2 ∧ fo3 = (felF X (cM σ) s (c + 1)).1) → Ex K G (NN tc) ρ (shp tc cl) 72 [some (.ref (ρ 51)), some (.int (iZ (s : Int))), some (.int (iZ ls3)), some (.int (iZ fo3)), some (.int (iZ (c : Int))), some (.int (iZ (s1 55 c)))] [] s3 := by
          intro ls3 fo3 s3 hinv
          obtain ⟨hM3, hV3, hls3, hfo3⟩ := hinv
          refine x_aload_n 73 C dX12_fell_72 rfl rfl rfl ?_
          refine x_getr (j := 7) 76 C rfl (lt79 (by decide)) rfl rfl (by decide) inT12 tb_4_141 rfl dX12_fell_73 rfl ?_
          refine x_iload 78 C dX12_fell_76 rfl rfl ?_
          refine x_iload 80 C dX12_fell_78 rfl rfl ?_
          refine x_iast 81 C rfl (lt79 (by decide)) dX12_fell_80 rfl (by omega) (by omega) (by omega) ?_
          refine x_iinc_4 84 C dX12_fell_81 rfl rfl ?_
          refine x_goto 26 C dX12_fell_84 rfl ?_
          refine ih _ (by omega) (c + 1) _ _ _ _ _ rfl ⟨by omega, by omega, ?_, KV_keep hV3 (up_row (by omega)) (up_row (by omega)), hls3, hfo3⟩
          rw [hcc]
          refine KX_KM' (KX_up (KX_KM hXu hM3) ⟨rfl, rfl⟩) (fun a b hh => ?_)
          obtain ⟨rfl, rfl⟩ := hh
          rw [up_s]
          exact hM1.1 55 b (by omega) (by omega) (by omega) (by omega)
        refine x_callVv 54 C dX12_fell_51 rfl (c_X12_morning (X := X) (N := N) hW_u) rfl (lt79 (by decide)) rfl tb_5_234 tb_5_236 tb_0_60 tb_1_20 tb_5_237 (na := 0) (by decide +kernel) rfl ⟨by decide, by decide⟩ rfl (Nat.le_of_ble_eq_true rfl) rfl (fun s51 hq51 hR51 => ?_)
        obtain ⟨hM_51, hV_51, hL_51, hD_51⟩ := hq51
        have hW_51 := KM_MW hM_51 hV_51 hW_u
        have e18_51 : s51 51 18 = σ 51 18 := (hM_51.2 18 (by omega)).trans f18_u
        have e13_51 : s51 51 13 = u 51 13 := hM_51.2 13 (by omega)
        have e62_51 : s51 62 = u 62 := KM_row hM_51 (by omega) (by omega) (by omega) (by omega)
        refine x_aload_n 55 C dX12_fell_54 rfl rfl rfl ?_
        refine x_iload_n 56 C dX12_fell_55 rfl rfl rfl ?_
        refine x_callVi 59 C dX12_fell_56 rfl (c_X12_leftOf (X := X) (N := N) (s := s) (d := hadT X (cM u) s) hW_51 (by omega) (hD_51 s (by omega)).1 (by rw [e13_51]; exact HDm_q hW_u.1 hD_51 (by omega))) rfl (lt79 (by decide)) rfl tb_6_15 tb_6_17 tb_0_63 tb_1_20 tb_6_18 (na := 1) (by decide +kernel) rfl ⟨by decide, by decide⟩ rfl (Nat.le_of_ble_eq_true rfl) rfl (fun z56 s56 hz56 hq56 hR56 => ?_)
        obtain ⟨hf_56, hV_56, jj_56⟩ := hq56
        rw [KM_cM hM_51, e62_51] at jj_56
        have j_56 : z56 = leftT X (cM u) s := jj_56
        rw [hu_u] at j_56
        have hM_56 := KM_trans hM_51 (FRk_KM hf_56)
        have hW_56 := KM_MW hM_56 hV_56 hW_u
        have hD_56 := HDm_row hD_51 (FRk_row hf_56 (a := 69) (by omega) (by omega) (by omega) (by omega)) (FRk_row hf_56 (a := 70) (by omega) (by omega) (by omega) (by omega))
        have e18_56 : s56 51 18 = σ 51 18 := (hM_56.2 18 (by omega)).trans f18_u
        have e13_56 : s56 51 13 = u 51 13 := hM_56.2 13 (by omega)
        have e62_56 : s56 62 = u 62 := KM_row hM_56 (by omega) (by omega) (by omega) (by omega)
        refine x_iload_n 60 C dX12_fell_59 rfl rfl rfl ?_
        refine x_icmp_le 72 63 C dX12_fell_60 rfl rfl (by omega) (by omega) (fun h60 => ?_) (fun h60 => ?_)
        · have hst : felF X (cM σ) s (c + 1) = felF X (cM σ) s c := by simp only [felF]; rw [if_neg (by omega)]
          first | exact J72 _ _ _ ⟨hM_56, hV_56, by rw [hst]; exact hls, by rw [hst]; exact hfo⟩ | exact J72 _ _ _ ⟨hM_68, hV_68, by rw [hst]; exact j_68, by rw [hst]⟩
        have hst : felF X (cM σ) s (c + 1) = ((c : Int), leftT X (up (cM σ) 2 c 0) s) := by simp only [felF]; rw [if_pos (by omega)]
        refine x_iload 65 C dX12_fell_63 rfl rfl ?_
        refine x_istore_n3 66 C dX12_fell_65 rfl rfl ?_
        refine x_aload_n 67 C dX12_fell_66 rfl rfl rfl ?_
        refine x_iload_n 68 C dX12_fell_67 rfl rfl rfl ?_
        refine x_callVi 71 C dX12_fell_68 rfl (c_X12_leftOf (X := X) (N := N) (s := s) (d := hadT X (cM u) s) hW_56 (by omega) (hD_56 s (by omega)).1 (by rw [e13_56]; exact HDm_q hW_u.1 hD_56 (by omega))) rfl (lt79 (by decide)) rfl tb_6_15 tb_6_17 tb_0_63 tb_1_20 tb_6_18 (na := 1) (by decide +kernel) rfl ⟨by decide, by decide⟩ rfl (Nat.le_of_ble_eq_true rfl) rfl (fun z68 s68 hz68 hq68 hR68 => ?_)
        obtain ⟨hf_68, hV_68, jj_68⟩ := hq68
        rw [KM_cM hM_56, e62_56] at jj_68
        have j_68 : z68 = leftT X (cM u) s := jj_68
        rw [hu_u] at j_68
        have hM_68 := KM_trans hM_56 (FRk_KM hf_68)
        have hW_68 := KM_MW hM_68 hV_68 hW_u
        have hD_68 := HDm_row hD_56 (FRk_row hf_68 (a := 69) (by omega) (by omega) (by omega) (by omega)) (FRk_row hf_68 (a := 70) (by omega) (by omega) (by omega) (by omega))
        have e18_68 : s68 51 18 = σ 51 18 := (hM_68.2 18 (by omega)).trans f18_u
        have e13_68 : s68 51 13 = u 51 13 := hM_68.2 13 (by omega)
        have e62_68 : s68 62 = u 62 := KM_row hM_68 (by omega) (by omega) (by omega) (by omega)
        refine x_istore_n2 72 C dX12_fell_71 rfl rfl ?_
        first | exact J72 _ _ _ ⟨hM_56, hV_56, by rw [hst]; exact hls, by rw [hst]; exact hfo⟩ | exact J72 _ _ _ ⟨hM_68, hV_68, by rw [hst]; exact j_68, by rw [hst]⟩
    rw [j_17]
    exact L26 _ 0 _ _ _ _ _ rfl ⟨by omega, rfl, hM_17, hV_17, rfl, rfl⟩
  refine x_bipush 10 C dX12_fell_8 rfl rfl ?_
  refine x_iret C T dX12_fell_10 ?_
  refine PI_i (by omega) ⟨?_, ?_, ?_⟩
  · first | exact KM_refl σ | exact hM1
  · first | exact hW.2.2.2 | exact hV1
  · unfold rFell
    first
      | (rw [if_neg (by rw [cM_18]; omega)]; done)
      | (rw [if_pos (by rw [cM_18]; omega), hss, show (36 : Nat) = c by omega]; exact hfo)
