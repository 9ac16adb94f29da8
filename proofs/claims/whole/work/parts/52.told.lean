/-! told otherwise -/
theorem fstA_congr {p p' : Nat → Bool} : ∀ f i, (∀ q, i ≤ q → q < i + f → p q = p' q) → fstA p f i = fstA p' f i
  | 0, _, _ => rfl
  | f + 1, i, h => by
    simp only [fstA]
    rw [h i (by omega) (by omega), fstA_congr f (i + 1) (fun q h1 h2 => h q (by omega) (by omega))]
theorem fstF_congr {p p' : Nat → Bool} {n : Nat} (h : ∀ q, q < n → p q = p' q) : fstF p n = fstF p' n := fstA_congr n 0 (fun q _ h2 => h q (by omega))
/-- the first sleeper of whom the row tells otherwise -/
def othF (X : Nat → RuT) (T : Sig) (it : Nat → Int) : Int := fstF (fun q => decide (it q ≠ hasI (hadT X T q))) (slN T)
theorem othF_in {X : Nat → RuT} {T : Sig} {it : Nat → Int} (hT : TI T) : -1 ≤ othF X T it ∧ othF X T it ≤ 5 := by
  have h := fstA_in (fun q => decide (it q ≠ hasI (hadT X T q))) (slN T) 0
  have h8 := hT.2.2.2.1
  have e : slN T = (T 1 8).toNat := rfl
  unfold othF fstF
  omega
theorem tS_self {T : Sig} {s : Nat} {m : Int} (h : m = T 9 s) {w : Int} : tS T s m w = up T 8 s w := by
  subst h
  unfold tS
  congr 1
  funext a b
  by_cases ha : a = 9
  · subst ha
    by_cases hb : b = s
    · subst hb; rw [up_s]
    · rw [up_i hb]
  · rw [up_r ha]
theorem tS_self9 {T : Sig} {s : Nat} {m w : Int} (h : w = T 8 s) : tS T s m w = up T 9 s m := by
  subst h
  unfold tS
  funext a b
  by_cases ha : a = 8
  · subst ha
    by_cases hb : b = s
    · subst hb; rw [up_s, up_r (by omega)]
    · rw [up_i hb]
  · rw [up_r ha]
def refC (σ : Sig) (i : Nat) : Int := if σ (43 + i) 1 = -1 then -11 else if σ (43 + i) 2 = σ 1 8 then 0 else -2
set_option maxHeartbeats 4000000 in
set_option maxRecDepth 100000 in
theorem c_X11_firstOtherwise {l : Launch} {G : Gt} {ρ : Nat → Nat} {tc : Nat} {cl : Nat → Nat} {σ : Sig} {i : Nat} (hi : i < 4) (hT : TI σ) (hsz : σ (43 + i) 2 = σ 1 8) : MX l yX11_firstOtherwise cX11_firstOtherwise 3 (some .int) 0 0 G (NN tc) ρ (shp tc cl) [.ref (ρ 0), .ref (ρ (43 + i))] σ (PE σ (fstF (fun q => decide (σ (47 + i) q ≠ σ 40 q)) (σ 1 8).toNat)) := by
  refine MX_of [some (.ref (ρ 0)), some (.ref (ρ (43 + i))), none] (by decide +kernel) rfl rfl (Nat.le_of_ble_eq_true rfl) ?_
  intro K hKl C T hRng
  subst hKl
  have h8 := hT.2.2.2.1
  refine x_iconst 1 C dX11_firstOtherwise_0 rfl ?_
  refine x_istore_n2 2 C dX11_firstOtherwise_1 rfl rfl ?_
  have L2 : ∀ (mz : Nat) (s : Nat) (y : Int), mz = 6 - s → ((s : Int) ≤ σ 1 8 ∧ y = s ∧ fstA (fun q => decide (σ (47 + i) q ≠ σ 40 q)) ((σ 1 8).toNat - s) s = fstF (fun q => decide (σ (47 + i) q ≠ σ 40 q)) (σ 1 8).toNat) → Ex K G (NN tc) ρ (shp tc cl) 2 [some (.ref (ρ 0)), some (.ref (ρ (43 + i))), some (.int (iZ y))] [] σ := by
    intro mz
    induction mz using Nat.strongRecOn with
    | ind mz ih =>
      intro s y hmz hinv
      obtain ⟨hs, rfl, hf⟩ := hinv
      have hss : (s : Int).toNat = s := Int.toNat_natCast s
      refine x_iload_n 3 C dX11_firstOtherwise_2 rfl rfl rfl ?_
      refine x_aload_n 4 C dX11_firstOtherwise_3 rfl rfl rfl ?_
      refine x_getr (j := 0) 7 C rfl (lt79 (by decide)) rfl rfl (by decide) inT11 tb_2_173 rfl dX11_firstOtherwise_4 rfl ?_
      refine x_geti (j := 8) 10 C rfl (lt79 (by decide)) rfl rfl (by decide) inT9 tb_1_61 rfl dX11_firstOtherwise_7 rfl (fun r7 => ?_)
      refine x_icmp_ge 47 13 C dX11_firstOtherwise_10 rfl rfl (by omega) (by omega) (fun h10 => ?_) (fun h10 => ?_)
      · refine x_iconst 48 C dX11_firstOtherwise_47 rfl ?_
        refine x_iret C T dX11_firstOtherwise_48 ?_
        refine PE_i ?_ (by omega)
        rw [← hf]
        first
          | (exfalso; omega)
          | (rw [show (σ 1 8).toNat - s = ((σ 1 8).toNat - (s + 1)) + 1 by omega]
             simp only [fstA]
             rw [if_pos (by rw [decide_eq_true_eq]; omega)])
          | (rw [show (σ 1 8).toNat - s = 0 by omega]; rfl)
      refine x_iload_n 14 C dX11_firstOtherwise_13 rfl rfl rfl ?_
      refine x_aload_n 15 C dX11_firstOtherwise_14 rfl rfl rfl ?_
      refine x_geti (j := 2) 18 C (sh_sheet hi) (by unfold NN; omega) rfl rfl (by decide) inT6 tb_2_165 rfl dX11_firstOtherwise_15 rfl (fun r15 => ?_)
      refine x_icmp_ge 47 21 C dX11_firstOtherwise_18 rfl rfl (by omega) (by omega) (fun h18 => ?_) (fun h18 => ?_)
      · refine x_iconst 48 C dX11_firstOtherwise_47 rfl ?_
        refine x_iret C T dX11_firstOtherwise_48 ?_
        refine PE_i ?_ (by omega)
        rw [← hf]
        first
          | (exfalso; omega)
          | (rw [show (σ 1 8).toNat - s = ((σ 1 8).toNat - (s + 1)) + 1 by omega]
             simp only [fstA]
             rw [if_pos (by rw [decide_eq_true_eq]; omega)])
          | (rw [show (σ 1 8).toNat - s = 0 by omega]; rfl)
      refine x_aload_n 22 C dX11_firstOtherwise_21 rfl rfl rfl ?_
      refine x_getr (j := 0) 25 C (sh_sheet hi) (by unfold NN; omega) rfl rfl (by decide) inT6 tb_2_161 rfl dX11_firstOtherwise_22 rfl ?_
      refine x_iload_n 26 C dX11_firstOtherwise_25 rfl rfl rfl ?_
      refine x_iald 27 C (sh_items hi) (by unfold NN; omega) dX11_firstOtherwise_26 rfl (by omega) (by omega) (fun r26 => ?_)
      refine x_aload_n 28 C dX11_firstOtherwise_27 rfl rfl rfl ?_
      refine x_getr (j := 7) 31 C rfl (lt79 (by decide)) rfl rfl (by decide) inT11 tb_2_180 rfl dX11_firstOtherwise_28 rfl ?_
      refine x_getr (j := 10) 34 C rfl (lt79 (by decide)) rfl rfl (by decide) inT3 tb_2_118 rfl dX11_firstOtherwise_31 rfl ?_
      refine x_iload_n 35 C dX11_firstOtherwise_34 rfl rfl rfl ?_
      refine x_iald 36 C rfl (lt79 (by decide)) dX11_firstOtherwise_35 rfl (by omega) (by omega) (fun r35 => ?_)
      rw [hss] at r26 r35 ⊢
      refine x_icmp_eq 41 39 C dX11_firstOtherwise_36 rfl rfl (by omega) (by omega) (fun h36 => ?_) (fun h36 => ?_)
      · refine x_iinc_2 44 C dX11_firstOtherwise_41 rfl rfl ?_
        refine x_goto 2 C dX11_firstOtherwise_44 rfl ?_
        refine ih _ (by omega) (s + 1) _ rfl ⟨by omega, by omega, ?_⟩
        rw [show (σ 1 8).toNat - s = ((σ 1 8).toNat - (s + 1)) + 1 by omega] at hf
        simp only [fstA] at hf
        rw [if_neg (by rw [decide_eq_true_eq]; omega)] at hf
        exact hf
      refine x_iload_n 40 C dX11_firstOtherwise_39 rfl rfl rfl ?_
      refine x_iret C T dX11_firstOtherwise_40 ?_
      refine PE_i ?_ (by omega)
      rw [← hf]
      first
        | (exfalso; omega)
        | (rw [show (σ 1 8).toNat - s = ((σ 1 8).toNat - (s + 1)) + 1 by omega]
           simp only [fstA]
           rw [if_pos (by rw [decide_eq_true_eq]; omega)])
        | (rw [show (σ 1 8).toNat - s = 0 by omega]; rfl)
  exact L2 _ 0 _ rfl ⟨by omega, rfl, rfl⟩

set_option maxHeartbeats 4000000 in
set_option maxRecDepth 100000 in
theorem c_X11_refusalOfTale {l : Launch} {G : Gt} {ρ : Nat → Nat} {tc : Nat} {cl : Nat → Nat} {σ : Sig} {i : Nat} (hi : i < 4) : MX l yX11_refusalOfTale cX11_refusalOfTale 2 (some .int) 0 0 G (NN tc) ρ (shp tc cl) [.ref (ρ 0), .int (iZ (i : Int))] σ (PE σ (refC σ i)) := by
  refine MX_of [some (.ref (ρ 0)), some (.int (iZ (i : Int)))] (by decide +kernel) rfl rfl (Nat.le_of_ble_eq_true rfl) ?_
  intro K hKl C T hRng
  subst hKl
  have hii : (i : Int).toNat = i := Int.toNat_natCast i
  refine x_aload_n 1 C dX11_refusalOfTale_0 rfl rfl rfl ?_
  refine x_getr (j := 8) 4 C rfl (lt79 (by decide)) rfl rfl (by decide) inT11 tb_2_181 rfl dX11_refusalOfTale_1 rfl ?_
  refine x_iload_n 5 C dX11_refusalOfTale_4 rfl rfl rfl ?_
  refine x_aald2 6 C rfl (lt79 (by decide)) dX11_refusalOfTale_5 rfl (by omega) (by omega) rfl ?_
  refine x_geti (j := 1) 9 C (sh_sheet (i := (i : Int).toNat) (by omega)) (by unfold NN; omega) rfl rfl (by decide) inT6 tb_2_163 rfl dX11_refusalOfTale_6 rfl (fun r6 => ?_)
  refine x_iconst 10 C dX11_refusalOfTale_9 rfl ?_
  refine x_icmp_ne 16 13 C dX11_refusalOfTale_10 rfl rfl (by omega) (by omega) (fun h10 => ?_) (fun h10 => ?_)
  rotate_left
  · refine x_bipush 15 C dX11_refusalOfTale_13 rfl rfl ?_
    refine x_iret C T dX11_refusalOfTale_15 ?_
    simp only [hii] at *
    refine PE_i ?_ (by omega)
    unfold refC
    first | rw [if_pos (by omega)] | rw [if_neg (by omega), if_pos (by omega)] | rw [if_neg (by omega), if_neg (by omega)]
  refine x_aload_n 17 C dX11_refusalOfTale_16 rfl rfl rfl ?_
  refine x_getr (j := 8) 20 C rfl (lt79 (by decide)) rfl rfl (by decide) inT11 tb_2_181 rfl dX11_refusalOfTale_17 rfl ?_
  refine x_iload_n 21 C dX11_refusalOfTale_20 rfl rfl rfl ?_
  refine x_aald2 22 C rfl (lt79 (by decide)) dX11_refusalOfTale_21 rfl (by omega) (by omega) rfl ?_
  refine x_geti (j := 2) 25 C (sh_sheet (i := (i : Int).toNat) (by omega)) (by unfold NN; omega) rfl rfl (by decide) inT6 tb_2_165 rfl dX11_refusalOfTale_22 rfl (fun r22 => ?_)
  refine x_aload_n 26 C dX11_refusalOfTale_25 rfl rfl rfl ?_
  refine x_getr (j := 0) 29 C rfl (lt79 (by decide)) rfl rfl (by decide) inT11 tb_2_173 rfl dX11_refusalOfTale_26 rfl ?_
  refine x_geti (j := 8) 32 C rfl (lt79 (by decide)) rfl rfl (by decide) inT9 tb_1_61 rfl dX11_refusalOfTale_29 rfl (fun r29 => ?_)
  refine x_icmp_ne 39 35 C dX11_refusalOfTale_32 rfl rfl (by omega) (by omega) (fun h32 => ?_) (fun h32 => ?_)
  · refine x_bipush 41 C dX11_refusalOfTale_39 rfl rfl ?_
    refine x_iret C T dX11_refusalOfTale_41 ?_
    simp only [hii] at *
    refine PE_i ?_ (by omega)
    unfold refC
    first | rw [if_pos (by omega)] | rw [if_neg (by omega), if_pos (by omega)] | rw [if_neg (by omega), if_neg (by omega)]
  refine x_iconst 36 C dX11_refusalOfTale_35 rfl ?_
  refine x_goto 41 C dX11_refusalOfTale_36 rfl ?_
  refine x_iret C T dX11_refusalOfTale_41 ?_
  simp only [hii] at *
  refine PE_i ?_ (by omega)
  unfold refC
  first | rw [if_pos (by omega)] | rw [if_neg (by omega), if_pos (by omega)] | rw [if_neg (by omega), if_neg (by omega)]

set_option maxHeartbeats 4000000 in
set_option maxRecDepth 100000 in
theorem c_X11_isTold {l : Launch} {G : Gt} {ρ : Nat → Nat} {tc : Nat} {cl : Nat → Nat} {σ : Sig} {X : Nat → RuT} {i s : Nat} {m w : Int} (hW : CW X tc cl σ) (hi : i < 4) (hs : (s : Int) < σ 1 8) (hO : HO X σ s σ) (hsz : σ (43 + i) 2 = σ 1 8) (hm : 0 ≤ m ∧ m ≤ 23) (hw : 0 ≤ w ∧ w ≤ 3) : MX l yX11_isTold cX11_isTold 7 (some .boolean) 5 129 G (NN tc) ρ (shp tc cl) [.ref (ρ 0), .int (iZ (i : Int)), .int (iZ (s : Int)), .int (iZ m), .int (iZ w)] σ (PI (fun z σ' => Kp 33 41 σ σ' ∧ OLk (4 * s + w.toNat) σ σ' ∧ ((z = 1 ∧ othF X (tS (cT σ) s m w) (σ (47 + i)) = -1) ∨ (z = 0 ∧ othF X (tS (cT σ) s m w) (σ (47 + i)) ≠ -1)))) := by
  refine MX_of [some (.ref (ρ 0)), some (.int (iZ (i : Int))), some (.int (iZ (s : Int))), some (.int (iZ m)), some (.int (iZ w)), none, none] (by decide +kernel) rfl rfl (Nat.le_of_ble_eq_true rfl) ?_
  intro K hKl C T hRng
  subst hKl
  have h8 := hW.1.2.2.2.1
  have hqs := hW.1.2.2.2.2 s
  have hss : (s : Int).toNat = s := Int.toNat_natCast s
  have hii : (i : Int).toNat = i := Int.toNat_natCast i
  refine x_aload_n 1 C dX11_isTold_0 rfl rfl rfl ?_
  refine x_getr (j := 0) 4 C rfl (lt79 (by decide)) rfl rfl (by decide) inT11 tb_2_173 rfl dX11_isTold_1 rfl ?_
  refine x_getr (j := 11) 7 C rfl (lt79 (by decide)) rfl rfl (by decide) inT9 tb_1_70 rfl dX11_isTold_4 rfl ?_
  refine x_iload_n 8 C dX11_isTold_7 rfl rfl rfl ?_
  refine x_iald 9 C rfl (lt79 (by decide)) dX11_isTold_8 rfl (by omega) (by omega) (fun r8 => ?_)
  rw [hss] at r8 ⊢
  refine x_istore_5 11 C dX11_isTold_9 rfl rfl ?_
  refine x_aload_n 12 C dX11_isTold_11 rfl rfl rfl ?_
  refine x_getr (j := 0) 15 C rfl (lt79 (by decide)) rfl rfl (by decide) inT11 tb_2_173 rfl dX11_isTold_12 rfl ?_
  refine x_getr (j := 10) 18 C rfl (lt79 (by decide)) rfl rfl (by decide) inT9 tb_1_67 rfl dX11_isTold_15 rfl ?_
  refine x_iload_n 19 C dX11_isTold_18 rfl rfl rfl ?_
  refine x_iald 20 C rfl (lt79 (by decide)) dX11_isTold_19 rfl (by omega) (by omega) (fun r19 => ?_)
  rw [hss] at r19 ⊢
  refine x_istore_6 22 C dX11_isTold_20 rfl rfl ?_
  refine x_aload_n 23 C dX11_isTold_22 rfl rfl rfl ?_
  refine x_getr (j := 0) 26 C rfl (lt79 (by decide)) rfl rfl (by decide) inT11 tb_2_173 rfl dX11_isTold_23 rfl ?_
  refine x_getr (j := 11) 29 C rfl (lt79 (by decide)) rfl rfl (by decide) inT9 tb_1_70 rfl dX11_isTold_26 rfl ?_
  refine x_iload_n 30 C dX11_isTold_29 rfl rfl rfl ?_
  refine x_iload_n 31 C dX11_isTold_30 rfl rfl rfl ?_
  refine x_iast 32 C rfl (lt79 (by decide)) dX11_isTold_31 rfl (by omega) (by omega) (by omega) ?_
  refine x_aload_n 33 C dX11_isTold_32 rfl rfl rfl ?_
  refine x_getr (j := 0) 36 C rfl (lt79 (by decide)) rfl rfl (by decide) inT11 tb_2_173 rfl dX11_isTold_33 rfl ?_
  refine x_getr (j := 10) 39 C rfl (lt79 (by decide)) rfl rfl (by decide) inT9 tb_1_67 rfl dX11_isTold_36 rfl ?_
  refine x_iload_n 40 C dX11_isTold_39 rfl rfl rfl ?_
  refine x_iload 42 C dX11_isTold_40 rfl rfl ?_
  refine x_iast 43 C rfl (lt79 (by decide)) dX11_isTold_42 rfl (by omega) (by omega) (by omega) ?_
  rw [hss]
  obtain ⟨s2, hs2⟩ : ∃ s2, up (up σ 9 s m) 8 s w = s2 := ⟨_, rfl⟩
  have hts : s2 = tS σ s m w := hs2.symm
  rw [hs2]
  have hW2 : CW X tc cl s2 := by rw [hts]; exact CW_S hW hm hw
  have u8 : s2 8 s = w := by rw [hts, tS_8s]
  have u9 : s2 9 s = m := by rw [hts, tS_9s]
  have u18 : s2 1 8 = σ 1 8 := by rw [hts, tS_row (by omega) (by omega)]
  refine x_aload_n 44 C dX11_isTold_43 rfl rfl rfl ?_
  refine x_getr (j := 7) 47 C rfl (lt79 (by decide)) rfl rfl (by decide) inT11 tb_2_180 rfl dX11_isTold_44 rfl ?_
  refine x_iload_n 48 C dX11_isTold_47 rfl rfl rfl ?_
  refine x_callVv 51 C dX11_isTold_48 rfl (c_X3_look (X := X) (s := s) hW2 (by omega)) rfl (lt79 (by decide)) rfl tb_3_58 tb_3_59 tb_3_60 tb_1_18 tb_3_61 (na := 1) (by decide +kernel) rfl ⟨by decide, by decide⟩ rfl (Nat.le_of_ble_eq_true rfl) rfl (fun s48 hq48 hR48 => ?_)
  obtain ⟨k1, k2, k3⟩ := hq48
  rw [u8] at k2 k3
  rw [show cT s2 = tS (cT σ) s m w by rw [hts, cT_S], u9] at k3
  have hO2 : HO X σ s s48 := HO_OLk hW.1 (HO_keep hO (by rw [hts, tS_row (by omega) (by omega)]) (by rw [hts, tS_row (by omega) (by omega)]) (by rw [hts, tS_row (by omega) (by omega)])) k2 (by omega)
  have hLL := HL_S (m := m) (w := w) hO2 k3
  refine x_aload_n 52 C dX11_isTold_51 rfl rfl rfl ?_
  refine x_getr (j := 7) 55 C rfl (lt79 (by decide)) rfl rfl (by decide) inT11 tb_2_180 rfl dX11_isTold_52 rfl ?_
  refine x_callVv 58 C dX11_isTold_55 rfl (c_X3_deal (X := X) (τ := tS σ s m w) (TI_S hW.1 hm hw) (fun a ha => by rw [← hts]; exact Kp_low k1 (by omega) a (by omega)) hLL) rfl (lt79 (by decide)) rfl tb_3_218 tb_3_162 tb_3_163 tb_1_18 tb_3_164 (na := 0) (by decide +kernel) rfl ⟨by decide, by decide⟩ rfl (Nat.le_of_ble_eq_true rfl) rfl (fun s55 hq55 hR55 => ?_)
  obtain ⟨k4, k5⟩ := hq55
  refine x_aload_n 59 C dX11_isTold_58 rfl rfl rfl ?_
  refine x_getr (j := 0) 62 C rfl (lt79 (by decide)) rfl rfl (by decide) inT11 tb_2_173 rfl dX11_isTold_59 rfl ?_
  refine x_getr (j := 11) 65 C rfl (lt79 (by decide)) rfl rfl (by decide) inT9 tb_1_70 rfl dX11_isTold_62 rfl ?_
  refine x_iload_n 66 C dX11_isTold_65 rfl rfl rfl ?_
  refine x_iload 68 C dX11_isTold_66 rfl rfl ?_
  refine x_iast 69 C rfl (lt79 (by decide)) dX11_isTold_68 rfl (by omega) (by omega) (by omega) ?_
  refine x_aload_n 70 C dX11_isTold_69 rfl rfl rfl ?_
  refine x_getr (j := 0) 73 C rfl (lt79 (by decide)) rfl rfl (by decide) inT11 tb_2_173 rfl dX11_isTold_70 rfl ?_
  refine x_getr (j := 10) 76 C rfl (lt79 (by decide)) rfl rfl (by decide) inT9 tb_1_67 rfl dX11_isTold_73 rfl ?_
  refine x_iload_n 77 C dX11_isTold_76 rfl rfl rfl ?_
  refine x_iload 79 C dX11_isTold_77 rfl rfl ?_
  refine x_iast 80 C rfl (lt79 (by decide)) dX11_isTold_79 rfl (by omega) (by omega) (by omega) ?_
  rw [hss]
  obtain ⟨s3, hs3⟩ : ∃ s3, up (up s55 9 s (σ 9 s)) 8 s (σ 8 s) = s3 := ⟨_, rfl⟩
  rw [hs3]
  have hK5 : Kp 33 41 s2 s55 := Kp_trans (Kp_wide k1 (by omega) (by omega)) (Kp_wide k4 (by omega) (by omega))
  have hK3 : Kp 33 41 σ s3 := fun a h1 h2 => by
    rw [← hs3]
    by_cases a8 : a = 8
    · subst a8
      funext b
      by_cases hb : b = s
      · subst hb; rw [up_s]
      · rw [up_i hb, up_r (show (8 : Nat) ≠ 9 by decide), hK5 8 (by omega) (by omega), hts, tS_8 hb]
    · rw [up_row a8]
      by_cases a9 : a = 9
      · subst a9
        funext b
        by_cases hb : b = s
        · subst hb; rw [up_s]
        · rw [up_i hb, hK5 9 (by omega) (by omega), hts, tS_9 hb]
      · rw [up_row a9, hK5 a h1 h2, hts, tS_row a8 a9]
  have hT3 := Kp_TI hK3 (by omega) hW.1
  have e18 : s3 1 8 = σ 1 8 := congrFun (hK3 1 (by omega) (by omega)) 8
  have e47 : s3 (47 + i) = σ (47 + i) := hK3 (47 + i) (by omega) (by omega)
  have hsz3 : s3 (43 + i) 2 = s3 1 8 := by rw [hK3 (43 + i) (by omega) (by omega), e18]; exact hsz
  have e40 : s3 40 = s55 40 := by rw [← hs3, up_row (by omega), up_row (by omega)]
  have hoth : fstF (fun q => decide (s3 (47 + i) q ≠ s3 40 q)) (s3 1 8).toNat = othF X (tS (cT σ) s m w) (σ (47 + i)) := by
    unfold othF
    rw [e18, show slN (tS (cT σ) s m w) = (σ 1 8).toNat from rfl]
    refine fstF_congr (fun q hq => ?_)
    rw [e47, e40, (k5 q (by rw [tS_row (by omega) (by omega)]; omega)).1, cT_S]
  have hoi := othF_in (X := X) (it := σ (47 + i)) (TI_S (s := s) (TI_cT hW.1) hm hw)
  refine x_aload_n 81 C dX11_isTold_80 rfl rfl rfl ?_
  refine x_aload_n 82 C dX11_isTold_81 rfl rfl rfl ?_
  refine x_getr (j := 8) 85 C rfl (lt79 (by decide)) rfl rfl (by decide) inT11 tb_2_181 rfl dX11_isTold_82 rfl ?_
  refine x_iload_n 86 C dX11_isTold_85 rfl rfl rfl ?_
  refine x_aald2 87 C rfl (lt79 (by decide)) dX11_isTold_86 rfl (by omega) (by omega) rfl ?_
  refine x_callVe 90 C dX11_isTold_87 rfl (c_X11_firstOtherwise (i := (i : Int).toNat) (by omega) hT3 (by rw [hii]; exact hsz3)) rfl (lt79 (by decide)) rfl tb_4_38 tb_4_40 tb_0_35 tb_1_1 tb_4_41 (na := 1) (by decide +kernel) rfl ⟨by decide, by decide⟩ rfl (Nat.le_of_ble_eq_true rfl) rfl (fun r87 => ?_)
  rw [hii, hoth] at r87 ⊢
  refine x_iconst 91 C dX11_isTold_90 rfl ?_
  refine x_icmp_ne 98 94 C dX11_isTold_91 rfl rfl (by omega) (by omega) (fun h91 => ?_) (fun h91 => ?_)
  · refine x_iconst 99 C dX11_isTold_98 rfl ?_
    refine x_zret C T dX11_isTold_99 (by omega) ?_
    refine PI_i (by omega) ⟨hK3, ⟨fun a ha => ?_, fun a ha => ?_⟩, ?_⟩
    · rw [← hs3, up_row (by omega), up_row (by omega), k4 36 (by omega) (by omega), k2.1 a ha, hts, tS_row (by omega) (by omega)]
    · rw [← hs3, up_row (show (37 : Nat) ≠ 8 by omega), up_row (show (37 : Nat) ≠ 9 by omega), up_row (show (38 : Nat) ≠ 8 by omega), up_row (show (38 : Nat) ≠ 9 by omega), k4 37 (by omega) (by omega), k4 38 (by omega) (by omega), (k2.2 a ha).1, (k2.2 a ha).2, hts, tS_row (by omega) (by omega), tS_row (by omega) (by omega)]
      exact ⟨rfl, rfl⟩
    · first | exact Or.inl ⟨rfl, by omega⟩ | exact Or.inr ⟨rfl, by omega⟩
  refine x_iconst 95 C dX11_isTold_94 rfl ?_
  refine x_goto 99 C dX11_isTold_95 rfl ?_
  refine x_zret C T dX11_isTold_99 (by omega) ?_
  refine PI_i (by omega) ⟨hK3, ⟨fun a ha => ?_, fun a ha => ?_⟩, ?_⟩
  · rw [← hs3, up_row (by omega), up_row (by omega), k4 36 (by omega) (by omega), k2.1 a ha, hts, tS_row (by omega) (by omega)]
  · rw [← hs3, up_row (show (37 : Nat) ≠ 8 by omega), up_row (show (37 : Nat) ≠ 9 by omega), up_row (show (38 : Nat) ≠ 8 by omega), up_row (show (38 : Nat) ≠ 9 by omega), k4 37 (by omega) (by omega), k4 38 (by omega) (by omega), (k2.2 a ha).1, (k2.2 a ha).2, hts, tS_row (by omega) (by omega), tS_row (by omega) (by omega)]
    exact ⟨rfl, rfl⟩
  · first | exact Or.inl ⟨rfl, by omega⟩ | exact Or.inr ⟨rfl, by omega⟩

def trW (X : Nat → RuT) (T : Sig) (it : Nat → Int) (s : Nat) : Nat → Int × Int → Int × Int
  | 0, p => p
  | w + 1, p => if (w : Int) ≠ T 8 s ∧ othF X (tS T s (T 9 s) w) it = -1 then ((trW X T it s w p).1 + 1, if (trW X T it s w p).2 = -1 then 10 * s + w else (trW X T it s w p).2) else trW X T it s w p
def trS (X : Nat → RuT) (T : Sig) (it : Nat → Int) : Nat → Int × Int
  | 0 => (0, -1)
  | s + 1 => trW X T it s 4 (trS X T it s)
theorem trW_in {X : Nat → RuT} {T : Sig} {it : Nat → Int} {s : Nat} (hs : s ≤ 5) {p : Int × Int} (h : (0 ≤ p.1 ∧ p.1 ≤ 4 * s) ∧ (-1 ≤ p.2 ∧ p.2 ≤ 100)) : ∀ w : Nat, w ≤ 4 → (0 ≤ (trW X T it s w p).1 ∧ (trW X T it s w p).1 ≤ 4 * s + w) ∧ (-1 ≤ (trW X T it s w p).2 ∧ (trW X T it s w p).2 ≤ 100)
  | 0, _ => by
    show (0 ≤ p.1 ∧ p.1 ≤ 4 * s + ((0 : Nat) : Int)) ∧ (-1 ≤ p.2 ∧ p.2 ≤ 100)
    omega
  | w + 1, hw => by
    have h1 := trW_in (X := X) (T := T) (it := it) hs h w (by omega)
    simp only [trW]
    split
    · refine ⟨⟨by show 0 ≤ (trW X T it s w p).1 + 1; omega, by show (trW X T it s w p).1 + 1 ≤ _; omega⟩, ?_⟩
      show -1 ≤ (if (trW X T it s w p).2 = -1 then 10 * (s : Int) + w else (trW X T it s w p).2) ∧ (if (trW X T it s w p).2 = -1 then 10 * (s : Int) + w else (trW X T it s w p).2) ≤ 100
      split <;> omega
    · omega
theorem trS_in {X : Nat → RuT} {T : Sig} {it : Nat → Int} : ∀ s : Nat, s ≤ 5 → (0 ≤ (trS X T it s).1 ∧ (trS X T it s).1 ≤ 4 * s) ∧ (-1 ≤ (trS X T it s).2 ∧ (trS X T it s).2 ≤ 100)
  | 0, _ => by
    show (0 ≤ (0 : Int) ∧ (0 : Int) ≤ 4 * ((0 : Nat) : Int)) ∧ (-1 ≤ (-1 : Int) ∧ (-1 : Int) ≤ 100)
    decide
  | s + 1, h => by
    have h1 := trS_in (X := X) (T := T) (it := it) s (by omega)
    have h2 := trW_in (X := X) (T := T) (it := it) (s := s) (by omega) h1 4 (by omega)
    show (0 ≤ (trW X T it s 4 (trS X T it s)).1 ∧ (trW X T it s 4 (trS X T it s)).1 ≤ 4 * ((s + 1 : Nat) : Int)) ∧ (-1 ≤ (trW X T it s 4 (trS X T it s)).2 ∧ (trW X T it s 4 (trS X T it s)).2 ≤ 100)
    omega
def rTurned (X : Nat → RuT) (T : Sig) (rf : Int) (it : Nat → Int) (v w : Int) : Int := if (0 ≤ v ∧ v < 4) ∧ (0 ≤ w ∧ w < 2) then (if rf ≠ 0 then rf else if w = 0 then (trS X T it (slN T)).1 else (trS X T it (slN T)).2) else -2
def wokF (X : Nat → RuT) (T : Sig) (it : Nat → Int) (s : Nat) : Nat → Nat
  | 0 => 0
  | m + 1 => wokF X T it s m + (if othF X (tS T s m (T 8 s)) it = -1 then 2 ^ m else 0)
theorem wokF_lt (X : Nat → RuT) (T : Sig) (it : Nat → Int) (s : Nat) : ∀ m, wokF X T it s m < 2 ^ m
  | 0 => by show 0 < 1; decide
  | m + 1 => by
    have := wokF_lt X T it s m
    simp only [wokF]
    rw [Nat.pow_succ]
    split <;> omega
def rWoke (X : Nat → RuT) (T : Sig) (rf : Int) (it : Nat → Int) (v w : Int) : Int := if (0 ≤ v ∧ v < 4) ∧ (0 ≤ w ∧ w < T 1 8) then (if rf ≠ 0 then rf else (wokF X T it w.toNat 24 : Nat)) else -2
def rJudge (X : Nat → RuT) (T : Sig) (rf : Int) (it : Nat → Int) (v : Int) : Int := if 0 ≤ v ∧ v < 4 then (if rf ≠ 0 then rf else othF X T it) else -2
theorem refC_in (σ : Sig) (i : Nat) : refC σ i = 0 ∨ refC σ i = -11 ∨ refC σ i = -2 := by unfold refC; (repeat' split) <;> omega
theorem refC_0 {σ : Sig} {i : Nat} (h : refC σ i = 0) : σ (43 + i) 2 = σ 1 8 := by
  unfold refC at h
  split at h
  · omega
  · split at h
    · assumption
    · omega
theorem shl24 : ∀ m : Nat, m < 24 → (iZ 1 <<< (iZ (m : Int) &&& 31)) = iZ ((2 ^ m : Nat) : Int) := by decide +kernel
theorem or_add {a m : Nat} (h : a < 2 ^ m) (hm : m < 24) : iZ (a : Int) ||| iZ ((2 ^ m : Nat) : Int) = iZ ((a + 2 ^ m : Nat) : Int) := by
  have e : a + 2 ^ m = 2 ^ m ||| a := by
    have := Nat.two_pow_add_eq_or_of_lt h 1
    rw [Nat.mul_one] at this
    rw [Nat.add_comm]
    exact this
  rw [e, Nat.or_comm]
  apply Int32.toBitVec_inj.mp
  show BitVec.ofInt 32 (a : Int) ||| BitVec.ofInt 32 ((2 ^ m : Nat) : Int) = BitVec.ofInt 32 ((a ||| 2 ^ m : Nat) : Int)
  simp only [BitVec.ofInt_natCast]
  exact (BitVec.ofNat_or).symm
set_option maxHeartbeats 4000000 in
set_option maxRecDepth 100000 in
theorem c_X11_turned {l : Launch} {G : Gt} {ρ : Nat → Nat} {tc : Nat} {cl : Nat → Nat} {σ : Sig} {X : Nat → RuT} {v w : Int} (hW : CW X tc cl σ) (hv : -2147483648 ≤ v ∧ v ≤ 2147483647) (hw : -2147483648 ≤ w ∧ w ≤ 2147483647) : MX l yX11_turned cX11_turned 8 (some .int) 6 155 G (NN tc) ρ (shp tc cl) [.ref (ρ 0), .int (iZ v), .int (iZ w)] σ (PI (fun z σ' => Kp 33 41 σ σ' ∧ z = rTurned X (cT σ) (refC σ v.toNat) (σ (47 + v.toNat)) v w)) := by
  refine MX_of [some (.ref (ρ 0)), some (.int (iZ v)), some (.int (iZ w)), none, none, none, none, none] (by decide +kernel) rfl rfl (Nat.le_of_ble_eq_true rfl) ?_
  intro K hKl C T hRng
  subst hKl
  have hT := hW.1
  have h3 := hT.2.2.1
  have h8 := hT.2.2.2.1
  have hTc := TI_cT hT
  refine x_iload_n 1 C dX11_turned_0 rfl rfl rfl ?_
  refine x_callSe 4 C dX11_turned_1 rfl (c_X11_isSheet (by omega)) tb_4_27 tb_4_28 tb_1_1 tb_4_29 (na := 1) (by decide +kernel) rfl ⟨by decide, by decide⟩ rfl (Nat.le_of_ble_eq_true rfl) rfl (fun r1 => ?_)
  first
    | refine x_ifb_eq 15 7 C dX11_turned_4 rfl rfl (fun h4 => ?_) (fun h4 => ?_)
    | refine x_if_eq 15 7 C dX11_turned_4 rfl rfl (by omega) (fun h4 => ?_) (fun h4 => ?_)
  · refine x_bipush 17 C dX11_turned_15 rfl rfl ?_
    refine x_iret C T dX11_turned_17 ?_
    refine PI_i (by omega) ⟨?_, ?_⟩
    · first | exact Kp_refl σ | exact hK1
    · unfold rTurned
      first
        | (rw [if_neg (by omega)]; done)
        | (rw [if_pos (by omega), hii, if_pos h25]; done)
        | (rw [if_pos (by omega), hii, if_neg (by omega), if_pos (by omega), slN_T, show (σ 1 8).toNat = s by omega]; exact hmn)
        | (rw [if_pos (by omega), hii, if_neg (by omega), if_neg (by omega), slN_T, show (σ 1 8).toNat = s by omega]; exact hfi)
  refine x_iload_n 8 C dX11_turned_7 rfl rfl rfl ?_
  refine x_iconst 9 C dX11_turned_8 rfl ?_
  refine x_callSe 12 C dX11_turned_9 rfl (c_X11_isWithin (by omega) (by omega)) tb_2_214 tb_2_215 tb_1_1 tb_2_216 (na := 2) (by decide +kernel) rfl ⟨by decide, by decide⟩ rfl (Nat.le_of_ble_eq_true rfl) rfl (fun r9 => ?_)
  first
    | refine x_ifb_ne 18 15 C dX11_turned_12 rfl rfl (fun h12 => ?_) (fun h12 => ?_)
    | refine x_if_ne 18 15 C dX11_turned_12 rfl rfl (by omega) (fun h12 => ?_) (fun h12 => ?_)
  rotate_left
  · refine x_bipush 17 C dX11_turned_15 rfl rfl ?_
    refine x_iret C T dX11_turned_17 ?_
    refine PI_i (by omega) ⟨?_, ?_⟩
    · first | exact Kp_refl σ | exact hK1
    · unfold rTurned
      first
        | (rw [if_neg (by omega)]; done)
        | (rw [if_pos (by omega), hii, if_pos h25]; done)
        | (rw [if_pos (by omega), hii, if_neg (by omega), if_pos (by omega), slN_T, show (σ 1 8).toNat = s by omega]; exact hmn)
        | (rw [if_pos (by omega), hii, if_neg (by omega), if_neg (by omega), slN_T, show (σ 1 8).toNat = s by omega]; exact hfi)
  obtain ⟨i, rfl⟩ : ∃ i : Nat, v = (i : Int) := ⟨v.toNat, by omega⟩
  have hii : (i : Int).toNat = i := Int.toNat_natCast i
  have hrf := refC_in σ i
  refine x_aload_n 19 C dX11_turned_18 rfl rfl rfl ?_
  refine x_iload_n 20 C dX11_turned_19 rfl rfl rfl ?_
  refine x_callVe 23 C dX11_turned_20 rfl (c_X11_refusalOfTale (i := i) (by omega)) rfl (lt79 (by decide)) rfl tb_4_30 tb_4_32 tb_0_33 tb_1_1 tb_4_33 (na := 1) (by decide +kernel) rfl ⟨by decide, by decide⟩ rfl (Nat.le_of_ble_eq_true rfl) rfl (fun r20 => ?_)
  refine x_istore_n3 24 C dX11_turned_23 rfl rfl ?_
  refine x_iload_n 25 C dX11_turned_24 rfl rfl rfl ?_
  refine x_if_eq 30 28 C dX11_turned_25 rfl rfl (by omega) (fun h25 => ?_) (fun h25 => ?_)
  · have hsz := refC_0 h25
    rw [h25]
    refine x_iconst 31 C dX11_turned_30 rfl ?_
    refine x_istore_4 33 C dX11_turned_31 rfl rfl ?_
    refine x_iconst 34 C dX11_turned_33 rfl ?_
    refine x_istore_5 36 C dX11_turned_34 rfl rfl ?_
    refine x_aload_n 37 C dX11_turned_36 rfl rfl rfl ?_
    refine x_getr (j := 7) 40 C rfl (lt79 (by decide)) rfl rfl (by decide) inT11 tb_2_180 rfl dX11_turned_37 rfl ?_
    refine x_callVv 43 C dX11_turned_40 rfl (c_X3_lookAll (X := X) hW) rfl (lt79 (by decide)) rfl tb_3_210 tb_3_211 tb_3_212 tb_1_18 tb_3_213 (na := 0) (by decide +kernel) rfl ⟨by decide, by decide⟩ rfl (Nat.le_of_ble_eq_true rfl) rfl (fun s40 hq40 hR40 => ?_)
    obtain ⟨k1, k2⟩ := hq40
    refine x_iconst 44 C dX11_turned_43 rfl ?_
    refine x_istore_6 46 C dX11_turned_44 rfl rfl ?_
    have L46 : ∀ (mz : Nat) (s : Nat) (y mn fi : Int) (s1 : Sig) (x7 : Option Value), mz = 6 - s → ((s : Int) ≤ σ 1 8 ∧ y = s ∧ Kp 33 41 σ s1 ∧ HL X σ s1 ∧ mn = (trS X (cT σ) (σ (47 + i)) s).1 ∧ fi = (trS X (cT σ) (σ (47 + i)) s).2) → Ex K G (NN tc) ρ (shp tc cl) 46 [some (.ref (ρ 0)), some (.int (iZ (i : Int))), some (.int (iZ w)), some (.int (iZ 0)), some (.int (iZ mn)), some (.int (iZ fi)), some (.int (iZ y)), x7] [] s1 := by
      intro mz
      induction mz using Nat.strongRecOn with
      | ind mz ih =>
        intro s y mn fi s1 x7 hmz hinv
        have ihs := ih
        obtain ⟨hs, rfl, hK1, hL1, hmn, hfi⟩ := hinv
        have hbi := trS_in (X := X) (T := cT σ) (it := σ (47 + i)) s (by omega)
        have e18a : s1 1 8 = σ 1 8 := congrFun (hK1 1 (by omega) (by omega)) 8
        refine x_iload 48 C dX11_turned_46 rfl rfl ?_
        refine x_aload_n 49 C dX11_turned_48 rfl rfl rfl ?_
        refine x_getr (j := 0) 52 C rfl (lt79 (by decide)) rfl rfl (by decide) inT11 tb_2_173 rfl dX11_turned_49 rfl ?_
        refine x_geti (j := 8) 55 C rfl (lt79 (by decide)) rfl rfl (by decide) inT9 tb_1_61 rfl dX11_turned_52 rfl (fun r52 => ?_)
        refine x_icmp_ge 140 58 C dX11_turned_55 rfl rfl (by omega) (by omega) (fun h55 => ?_) (fun h55 => ?_)
        rotate_left
        · refine x_iconst 59 C dX11_turned_58 rfl ?_
          refine x_istore_7 61 C dX11_turned_59 rfl rfl ?_
          have L61 : ∀ (mz : Nat) (k : Nat) (y mn fi : Int) (s1 : Sig), mz = 4 - k → (k ≤ 4 ∧ y = k ∧ Kp 33 41 σ s1 ∧ HL X σ s1 ∧ mn = (trW X (cT σ) (σ (47 + i)) s k (trS X (cT σ) (σ (47 + i)) s)).1 ∧ fi = (trW X (cT σ) (σ (47 + i)) s k (trS X (cT σ) (σ (47 + i)) s)).2) → Ex K G (NN tc) ρ (shp tc cl) 61 [some (.ref (ρ 0)), some (.int (iZ (i : Int))), some (.int (iZ w)), some (.int (iZ 0)), some (.int (iZ mn)), some (.int (iZ fi)), some (.int (iZ (s : Int))), some (.int (iZ y))] [] s1 := by
            intro mz
            induction mz using Nat.strongRecOn with
            | ind mz ih =>
              intro k y mn fi s1 hmz hinv
              obtain ⟨hk, rfl, hK1, hL1, hmn, hfi⟩ := hinv
              have hbk := trW_in (X := X) (T := cT σ) (it := σ (47 + i)) (s := s) (by omega) hbi k hk
              have hss : (s : Int).toNat = s := Int.toNat_natCast s
              have hqs := hT.2.2.2.2 s
              have hW1 := CW_Kp hW hK1 (by omega)
              have e18 : s1 1 8 = σ 1 8 := congrFun (hK1 1 (by omega) (by omega)) 8
              have hL1s : HL X s1 s1 := by
                intro a ha
                rw [Kp_cT hK1 (by omega), hK1 8 (by omega) (by omega), hK1 9 (by omega) (by omega)]
                exact hL1 a (by omega)
              have hsz1 : s1 (43 + i) 2 = s1 1 8 := by rw [hK1 (43 + i) (by omega) (by omega), e18]; exact hsz
              refine x_iload 63 C dX11_turned_61 rfl rfl ?_
              refine x_iconst 64 C dX11_turned_63 rfl ?_
              refine x_icmp_ge 134 67 C dX11_turned_64 rfl rfl (by omega) (by omega) (fun h64 => ?_) (fun h64 => ?_)
              · refine x_iinc_6 137 C dX11_turned_134 rfl rfl ?_
                refine x_goto 46 C dX11_turned_137 rfl ?_
                exact ihs _ (by omega) (s + 1) _ _ _ _ _ rfl ⟨by omega, by omega, hK1, hL1, by rw [hmn, show k = 4 by omega]; rfl, by rw [hfi, show k = 4 by omega]; rfl⟩
              have J128 : ∀ (mn5 fi5 : Int) (s5 : Sig), (Kp 33 41 σ s5 ∧ HL X σ s5 ∧ mn5 = (trW X (cT σ) (σ (47 + i)) s (k + 1) (trS X (cT σ) (σ (47 + i)) s)).1 ∧ fi5 = (trW X (cT σ) (σ (47 + i)) s (k + 1) (trS X (cT σ) (σ (47 + i)) s)).2) → Ex K G (NN tc) ρ (shp tc cl) 128 [some (.ref (ρ 0)), some (.int (iZ (i : Int))), some (.int (iZ w)), some (.int (iZ 0)), some (.int (iZ mn5)), some (.int (iZ fi5)), some (.int (iZ (s : Int))), some (.int (iZ (k : Int)))] [] s5 := by
                intro mn5 fi5 s5 hinv
                obtain ⟨hK5, hL5, hmn5, hfi5⟩ := hinv
                refine x_iinc_7 131 C dX11_turned_128 rfl rfl ?_
                refine x_goto 61 C dX11_turned_131 rfl ?_
                exact ih _ (by omega) (k + 1) _ _ _ _ rfl ⟨by omega, by omega, hK5, hL5, hmn5, hfi5⟩
              refine x_iload 69 C dX11_turned_67 rfl rfl ?_
              refine x_aload_n 70 C dX11_turned_69 rfl rfl rfl ?_
              refine x_getr (j := 0) 73 C rfl (lt79 (by decide)) rfl rfl (by decide) inT11 tb_2_173 rfl dX11_turned_70 rfl ?_
              refine x_getr (j := 10) 76 C rfl (lt79 (by decide)) rfl rfl (by decide) inT9 tb_1_67 rfl dX11_turned_73 rfl ?_
              refine x_iload 78 C dX11_turned_76 rfl rfl ?_
              refine x_iald 79 C rfl (lt79 (by decide)) dX11_turned_78 rfl (by omega) (by omega) (fun r78 => ?_)
              rw [show s1 8 (s : Int).toNat = σ 8 s by rw [hss, hK1 8 (by omega) (by omega)]] at r78 ⊢
              refine x_icmp_eq 128 82 C dX11_turned_79 rfl rfl (by omega) (by omega) (fun h79 => ?_) (fun h79 => ?_)
              · have hst : trW X (cT σ) (σ (47 + i)) s (k + 1) (trS X (cT σ) (σ (47 + i)) s) = trW X (cT σ) (σ (47 + i)) s k (trS X (cT σ) (σ (47 + i)) s) := by simp only [trW]; rw [if_neg (fun h => h.1 h79)]
                first | exact J128 _ _ _ ⟨hK1, hL1, by rw [hst]; exact hmn, by rw [hst]; exact hfi⟩ | exact J128 _ _ _ ⟨hK2, hL2, by rw [hst]; exact hmn, by rw [hst]; exact hfi⟩ | exact J128 _ _ _ ⟨hK2, hL2, by rw [hst, hmn], by rw [hst]; exact hx⟩
              refine x_aload_n 83 C dX11_turned_82 rfl rfl rfl ?_
              refine x_iload_n 84 C dX11_turned_83 rfl rfl rfl ?_
              refine x_iload 86 C dX11_turned_84 rfl rfl ?_
              refine x_aload_n 87 C dX11_turned_86 rfl rfl rfl ?_
              refine x_getr (j := 0) 90 C rfl (lt79 (by decide)) rfl rfl (by decide) inT11 tb_2_173 rfl dX11_turned_87 rfl ?_
              refine x_getr (j := 11) 93 C rfl (lt79 (by decide)) rfl rfl (by decide) inT9 tb_1_70 rfl dX11_turned_90 rfl ?_
              refine x_iload 95 C dX11_turned_93 rfl rfl ?_
              refine x_iald 96 C rfl (lt79 (by decide)) dX11_turned_95 rfl (by omega) (by omega) (fun r95 => ?_)
              rw [show s1 9 (s : Int).toNat = σ 9 s by rw [hss, hK1 9 (by omega) (by omega)]] at r95 ⊢
              refine x_iload 98 C dX11_turned_96 rfl rfl ?_
              refine x_callVi 101 C dX11_turned_98 rfl (c_X11_isTold (X := X) (i := i) (s := s) (m := σ 9 s) (w := (k : Int)) hW1 (by omega) (by omega) (HL_HO hL1s s) hsz1 (by omega) (by omega)) rfl (lt79 (by decide)) rfl tb_4_34 tb_4_36 tb_0_34 tb_1_1 tb_4_37 (na := 4) (by decide +kernel) rfl ⟨by decide, by decide⟩ rfl (Nat.le_of_ble_eq_true rfl) rfl (fun z98 s98 hz98 hq98 hR98 => ?_)
              obtain ⟨j1, j2, j3⟩ := hq98
              rw [Kp_cT hK1 (by omega), hK1 (47 + i) (by omega) (by omega), Int.toNat_natCast] at *
              have hK2 := Kp_trans hK1 j1
              have hL2 : HL X σ s98 := fun a ha => LKa_other (hL1 a ha) j2 (by
                intro he
                have hqa := hT.2.2.2.2 a
                have : a = s := by omega
                subst this
                omega) (seenT_le hT a)
              first
                | refine x_ifb_eq 128 104 C dX11_turned_101 rfl rfl (fun h101 => ?_) (fun h101 => ?_)
                | refine x_if_eq 128 104 C dX11_turned_101 rfl rfl (by omega) (fun h101 => ?_) (fun h101 => ?_)
              · have hno : othF X (tS (cT σ) s ((cT σ) 9 s) (k : Int)) (σ (47 + i)) ≠ -1 := by rcases j3 with h | h; omega; exact h.2
                have hst : trW X (cT σ) (σ (47 + i)) s (k + 1) (trS X (cT σ) (σ (47 + i)) s) = trW X (cT σ) (σ (47 + i)) s k (trS X (cT σ) (σ (47 + i)) s) := by simp only [trW]; rw [if_neg (fun h => hno h.2)]
                first | exact J128 _ _ _ ⟨hK1, hL1, by rw [hst]; exact hmn, by rw [hst]; exact hfi⟩ | exact J128 _ _ _ ⟨hK2, hL2, by rw [hst]; exact hmn, by rw [hst]; exact hfi⟩ | exact J128 _ _ _ ⟨hK2, hL2, by rw [hst, hmn], by rw [hst]; exact hx⟩
              have hyes : othF X (tS (cT σ) s ((cT σ) 9 s) (k : Int)) (σ (47 + i)) = -1 := by rcases j3 with h | h; exact h.2; omega
              have hst : trW X (cT σ) (σ (47 + i)) s (k + 1) (trS X (cT σ) (σ (47 + i)) s) = ((trW X (cT σ) (σ (47 + i)) s k (trS X (cT σ) (σ (47 + i)) s)).1 + 1, if (trW X (cT σ) (σ (47 + i)) s k (trS X (cT σ) (σ (47 + i)) s)).2 = -1 then 10 * (s : Int) + k else (trW X (cT σ) (σ (47 + i)) s k (trS X (cT σ) (σ (47 + i)) s)).2) := by simp only [trW]; rw [if_pos ⟨h79, hyes⟩]
              refine x_iinc_4 107 C dX11_turned_104 rfl rfl ?_
              have J126 : ∀ (x : Int), (x = (if (trW X (cT σ) (σ (47 + i)) s k (trS X (cT σ) (σ (47 + i)) s)).2 = -1 then 10 * (s : Int) + k else (trW X (cT σ) (σ (47 + i)) s k (trS X (cT σ) (σ (47 + i)) s)).2)) → Ex K G (NN tc) ρ (shp tc cl) 126 [some (.ref (ρ 0)), some (.int (iZ (i : Int))), some (.int (iZ w)), some (.int (iZ 0)), some (.int (iZ (mn + 1))), some (.int (iZ fi)), some (.int (iZ (s : Int))), some (.int (iZ (k : Int)))] [.int (iZ x)] s98 := by
                intro x hinv
                have hx := hinv
                have hxr : -1 ≤ x ∧ x ≤ 100 := by rw [hx]; split <;> omega
                refine x_istore_5 128 C dX11_turned_126 rfl rfl ?_
                first | exact J128 _ _ _ ⟨hK1, hL1, by rw [hst]; exact hmn, by rw [hst]; exact hfi⟩ | exact J128 _ _ _ ⟨hK2, hL2, by rw [hst]; exact hmn, by rw [hst]; exact hfi⟩ | exact J128 _ _ _ ⟨hK2, hL2, by rw [hst, hmn], by rw [hst]; exact hx⟩
              refine x_iload 109 C dX11_turned_107 rfl rfl ?_
              refine x_iconst 110 C dX11_turned_109 rfl ?_
              refine x_icmp_ne 124 113 C dX11_turned_110 rfl rfl (by omega) (by omega) (fun h110 => ?_) (fun h110 => ?_)
              · refine x_iload 126 C dX11_turned_124 rfl rfl ?_
                exact J126 _ (by rw [← hfi]; first | rw [if_pos (by omega)] | rw [if_neg (by omega)])
              refine x_bipush 115 C dX11_turned_113 rfl rfl ?_
              refine x_iload 117 C dX11_turned_115 rfl rfl ?_
              refine x_imul 118 C dX11_turned_117 rfl ?_
              refine x_iload 120 C dX11_turned_118 rfl rfl ?_
              refine x_iadd 121 C dX11_turned_120 rfl ?_
              refine x_goto 126 C dX11_turned_121 rfl ?_
              exact J126 _ (by rw [← hfi]; first | rw [if_pos (by omega)] | rw [if_neg (by omega)])
          exact L61 _ 0 _ _ _ _ rfl ⟨by omega, rfl, hK1, hL1, hmn, hfi⟩
        refine x_iload_n 141 C dX11_turned_140 rfl rfl rfl ?_
        refine x_if_ne 149 144 C dX11_turned_141 rfl rfl (by omega) (fun h141 => ?_) (fun h141 => ?_)
        · refine x_iload 151 C dX11_turned_149 rfl rfl ?_
          refine x_iret C T dX11_turned_151 ?_
          refine PI_i (by omega) ⟨?_, ?_⟩
          · first | exact Kp_refl σ | exact hK1
          · unfold rTurned
            first
              | (rw [if_neg (by omega)]; done)
              | (rw [if_pos (by omega), hii, if_pos h25]; done)
              | (rw [if_pos (by omega), hii, if_neg (by omega), if_pos (by omega), slN_T, show (σ 1 8).toNat = s by omega]; exact hmn)
              | (rw [if_pos (by omega), hii, if_neg (by omega), if_neg (by omega), slN_T, show (σ 1 8).toNat = s by omega]; exact hfi)
        refine x_iload 146 C dX11_turned_144 rfl rfl ?_
        refine x_goto 151 C dX11_turned_146 rfl ?_
        refine x_iret C T dX11_turned_151 ?_
        refine PI_i (by omega) ⟨?_, ?_⟩
        · first | exact Kp_refl σ | exact hK1
        · unfold rTurned
          first
            | (rw [if_neg (by omega)]; done)
            | (rw [if_pos (by omega), hii, if_pos h25]; done)
            | (rw [if_pos (by omega), hii, if_neg (by omega), if_pos (by omega), slN_T, show (σ 1 8).toNat = s by omega]; exact hmn)
            | (rw [if_pos (by omega), hii, if_neg (by omega), if_neg (by omega), slN_T, show (σ 1 8).toNat = s by omega]; exact hfi)
    exact L46 _ 0 _ _ _ _ _ rfl ⟨by omega, rfl, Kp_wide k1 (by omega) (by omega), k2, rfl, rfl⟩
  refine x_iload_n 29 C dX11_turned_28 rfl rfl rfl ?_
  refine x_iret C T dX11_turned_29 ?_
  refine PI_i (by omega) ⟨?_, ?_⟩
  · first | exact Kp_refl σ | exact hK1
  · unfold rTurned
    first
      | (rw [if_neg (by omega)]; done)
      | (rw [if_pos (by omega), hii, if_pos h25]; done)
      | (rw [if_pos (by omega), hii, if_neg (by omega), if_pos (by omega), slN_T, show (σ 1 8).toNat = s by omega]; exact hmn)
      | (rw [if_pos (by omega), hii, if_neg (by omega), if_neg (by omega), slN_T, show (σ 1 8).toNat = s by omega]; exact hfi)
