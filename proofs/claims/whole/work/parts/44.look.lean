/-! what a morning leaves as it is: all but the rows from lo to hi, and the texts' stacks -/
def Kp (lo hi : Nat) (σ σ' : Sig) : Prop := ∀ a, ¬ (lo ≤ a ∧ a ≤ hi) → ¬ (81 ≤ a ∧ a < 97 ∧ a % 3 = 0) → σ' a = σ a
theorem Kp_refl {lo hi : Nat} (σ : Sig) : Kp lo hi σ σ := fun _ _ _ => rfl
theorem Kp_trans {lo hi : Nat} {σ s1 s2 : Sig} (h : Kp lo hi σ s1) (h2 : Kp lo hi s1 s2) : Kp lo hi σ s2 := fun a h3 h4 => (h2 a h3 h4).trans (h a h3 h4)
theorem Kp_wide {lo hi lo' hi' : Nat} {σ s1 : Sig} (h : Kp lo hi σ s1) (h2 : lo' ≤ lo) (h3 : hi ≤ hi') : Kp lo' hi' σ s1 := fun a h4 h5 => h a (by omega) h5
theorem Kp_up {lo hi : Nat} {σ s : Sig} {a i : Nat} {v : Int} (h : Kp lo hi σ s) (ha : lo ≤ a ∧ a ≤ hi) : Kp lo hi σ (up s a i v) := fun b h1 h2 => by rw [up_row (by omega)]; exact h b h1 h2
theorem Kp_row {lo hi : Nat} {σ s : Sig} {a : Nat} (h : Kp lo hi σ s) (ha : ¬ (lo ≤ a ∧ a ≤ hi)) (h2 : ¬ (81 ≤ a ∧ a < 97 ∧ a % 3 = 0)) : s a = σ a := h a ha h2
theorem Kp_low {lo hi : Nat} {σ s : Sig} (h : Kp lo hi σ s) (hl : 33 ≤ lo) : ∀ a, a ≤ 32 → s a = σ a := fun a ha => h a (by omega) (by omega)
theorem Kp_cT {lo hi : Nat} {σ s : Sig} (h : Kp lo hi σ s) (hl : 33 ≤ lo) : cT s = cT σ := cT_keep (fun a ha => Kp_low h hl a (by omega))
theorem Kp_TI {lo hi : Nat} {σ s : Sig} (h : Kp lo hi σ s) (hl : 33 ≤ lo) (hT : TI σ) : TI s := TI_keep (fun a ha => Kp_low h hl a (by omega)) hT
/-- the class's world of a morning -/
def CW (X : Nat → RuT) (tc : Nat) (cl : Nat → Nat) (σ : Sig) : Prop := TI σ ∧ HC σ X tc cl ∧ σ 1 2 < tc
theorem CW_keep {X : Nat → RuT} {tc : Nat} {cl : Nat → Nat} {σ s : Sig} (h : CW X tc cl σ) (h1 : ∀ a, a ≤ 10 → s a = σ a) (h2 : ∀ a, 79 ≤ a → a < 97 → ¬ a % 3 = 0 → s a = σ a) : CW X tc cl s := by
  obtain ⟨a1, ⟨a2, a3⟩, a4⟩ := h
  refine ⟨TI_keep h1 a1, ⟨a2, fun t ht => ?_⟩, by rw [h1 1 (by omega)]; exact a4⟩
  rw [h2 (79 + 3 * t) (by omega) (by omega) (by omega), h2 (79 + 3 * t + 1) (by omega) (by omega) (by omega)]
  exact a3 t ht
theorem CW_Kp {X : Nat → RuT} {tc : Nat} {cl : Nat → Nat} {lo hi : Nat} {σ s : Sig} (h : CW X tc cl σ) (hk : Kp lo hi σ s) (hl : 33 ≤ lo ∧ hi < 79) : CW X tc cl s := CW_keep h (fun a ha => Kp_low hk hl.1 a (by omega)) (fun a h1 h2 h3 => hk a (by omega) (by omega))
set_option maxHeartbeats 4000000 in
set_option maxRecDepth 100000 in
theorem c_X3_clamped {l : Launch} {G : Gt} {ρ : Nat → Nat} {tc : Nat} {cl : Nat → Nat} {σ : Sig} {v a b : Int} (hv : -2147483648 ≤ v ∧ v ≤ 2147483647) (ha : -2147483648 ≤ a ∧ a ≤ 2147483647) (hb : -2147483648 ≤ b ∧ b ≤ 2147483647) (hab : a ≤ b) : MX l yX3_clamped cX3_clamped 3 (some .int) 1 21 G (NN tc) ρ (shp tc cl) [.int (iZ v), .int (iZ a), .int (iZ b)] σ (PE σ (clampF v a b)) := by
  refine MX_of [some (.int (iZ v)), some (.int (iZ a)), some (.int (iZ b))] (by decide +kernel) rfl rfl (Nat.le_of_ble_eq_true rfl) ?_
  intro K hKl C T hRng
  subst hKl
  refine x_iload_n 1 C dX3_clamped_0 rfl rfl rfl ?_
  refine x_iload_n 2 C dX3_clamped_1 rfl rfl rfl ?_
  refine x_iload_n 3 C dX3_clamped_2 rfl rfl rfl ?_
  refine x_mmin 6 C tb_3_123 tb_2_78 tb_1_16 tb_2_79 dX3_clamped_3 rfl (by omega) (by omega) ⟨by decide, Nat.le_of_ble_eq_true rfl⟩ rfl ?_
  refine x_mmax 9 C tb_3_76 tb_3_77 tb_1_16 tb_3_78 dX3_clamped_6 rfl (by omega) (by split <;> omega) ⟨by decide, Nat.le_of_ble_eq_true rfl⟩ rfl ?_
  refine x_iret C T dX3_clamped_9 ?_
  refine PE_i ?_ (by (repeat' split) <;> omega)
  unfold clampF
  (repeat' split) <;> omega

set_option maxHeartbeats 4000000 in
set_option maxRecDepth 100000 in
theorem c_X3_ruled {l : Launch} {G : Gt} {ρ : Nat → Nat} {tc : Nat} {cl : Nat → Nat} {σ : Sig} {X : Nat → RuT} {w : Int} (hW : CW X tc cl σ) (hw : 0 ≤ w ∧ w ≤ 2) : MX l yX3_ruled cX3_ruled 3 (some .int) 2 49 G (NN tc) ρ (shp tc cl) [.ref (ρ 32), .int (iZ w)] σ (PI (fun z σ' => Kp 33 32 σ σ' ∧ z = evL (nmC σ) (prt w (X (σ 1 2).toNat)))) := by
  refine MX_of [some (.ref (ρ 32)), some (.int (iZ w)), none] (by decide +kernel) rfl rfl (Nat.le_of_ble_eq_true rfl) ?_
  intro K hKl C T hRng
  subst hKl
  have hr := hW.1.2.1
  have hr2 := hW.2.2
  have htc := hW.2.1.1
  refine x_aload_n 1 C dX3_ruled_0 rfl rfl rfl ?_
  refine x_getr (j := 2) 4 C rfl (lt79 (by decide)) rfl rfl (by decide) inT3 tb_2_109 rfl dX3_ruled_1 rfl ?_
  refine x_aload_n 5 C dX3_ruled_4 rfl rfl rfl ?_
  refine x_getr (j := 0) 8 C rfl (lt79 (by decide)) rfl rfl (by decide) inT3 tb_2_107 rfl dX3_ruled_5 rfl ?_
  refine x_geti (j := 2) 11 C rfl (lt79 (by decide)) rfl rfl (by decide) inT9 tb_1_42 rfl dX3_ruled_8 rfl (fun r8 => ?_)
  refine x_aald1 12 C rfl (lt79 (by decide)) dX3_ruled_11 rfl (by omega) (by omega) (if_pos (by omega)) ?_
  refine x_astore_n2 13 C dX3_ruled_12 rfl rfl ?_
  refine x_aload_n 14 C dX3_ruled_13 rfl rfl rfl ?_
  refine x_ifnnR 21 C dX3_ruled_14 rfl ?_
  refine x_aload_n 22 C dX3_ruled_21 rfl rfl rfl ?_
  refine x_iload_n 23 C dX3_ruled_22 rfl rfl rfl ?_
  refine x_aload_n 24 C dX3_ruled_23 rfl rfl rfl ?_
  refine x_getr (j := 3) 27 C rfl (lt79 (by decide)) rfl rfl (by decide) inT3 tb_2_110 rfl dX3_ruled_24 rfl ?_
  refine x_callVi 30 C dX3_ruled_27 rfl (c_X7_valueOf (t := (σ 1 2).toNat) hW.2.1 (by omega) hw) (sh_text _) (by unfold NN; omega) rfl tb_3_109 tb_3_110 tb_3_111 tb_1_14 tb_3_112 (na := 2) (by decide +kernel) rfl ⟨by decide, by decide⟩ rfl (Nat.le_of_ble_eq_true rfl) rfl (fun z27 s27 hz27 hq27 hR27 => ?_)
  refine x_iret C T dX3_ruled_30 ?_
  exact PI_i (by omega) ⟨fun a h1 h2 => hq27.1 a (by omega), hq27.2⟩

set_option maxHeartbeats 4000000 in
set_option maxRecDepth 100000 in
theorem c_X3_placeThings {l : Launch} {G : Gt} {ρ : Nat → Nat} {tc : Nat} {cl : Nat → Nat} {σ : Sig} {m : Int} (hm : 0 ≤ m ∧ m ≤ 23) (hT : TI σ) : MX l yX3_placeThings cX3_placeThings 4 none 3 80 G (NN tc) ρ (shp tc cl) [.ref (ρ 32), .int (iZ m)] σ (PV (fun σ' => Kp 34 34 σ σ' ∧ ∀ t : Nat, (t : Int) < σ 1 3 → σ' 34 t = whereF (σ 6 t) (σ 3 t) (σ 5 t) m)) := by
  refine MX_of [some (.ref (ρ 32)), some (.int (iZ m)), none, none] (by decide +kernel) rfl rfl (Nat.le_of_ble_eq_true rfl) ?_
  intro K hKl C T hRng
  subst hKl
  have h3 := hT.2.2.1
  refine x_iconst 1 C dX3_placeThings_0 rfl ?_
  refine x_istore_n2 2 C dX3_placeThings_1 rfl rfl ?_
  have L2 : ∀ (mz : Nat) (i : Nat) (y : Int) (s1 : Sig), mz = 6 - i → ((i : Int) ≤ σ 1 3 ∧ y = i ∧ Kp 34 34 σ s1 ∧ ∀ t : Nat, t < i → s1 34 t = whereF (σ 6 t) (σ 3 t) (σ 5 t) m) → Ex K G (NN tc) ρ (shp tc cl) 2 [some (.ref (ρ 32)), some (.int (iZ m)), some (.int (iZ y)), none] [] s1 := by
    intro mz
    induction mz using Nat.strongRecOn with
    | ind mz ih =>
      intro i y s1 hmz hinv
      obtain ⟨hi, rfl, hK1, hd⟩ := hinv
      have hii : ((i : Int)).toNat = i := Int.toNat_natCast i
      have e1 : s1 1 3 = σ 1 3 := congrFun (hK1 1 (by omega) (by omega)) 3
      have e3 : s1 3 (i : Int).toNat = σ 3 i := by rw [hii]; exact congrFun (hK1 3 (by omega) (by omega)) i
      have e5 : s1 5 (i : Int).toNat = σ 5 i := by rw [hii]; exact congrFun (hK1 5 (by omega) (by omega)) i
      have e6 : s1 6 (i : Int).toNat = σ 6 i := by rw [hii]; exact congrFun (hK1 6 (by omega) (by omega)) i
      have hq := hT.2.2.2.2 i
      refine x_iload_n 3 C dX3_placeThings_2 rfl rfl rfl ?_
      refine x_aload_n 4 C dX3_placeThings_3 rfl rfl rfl ?_
      refine x_getr (j := 0) 7 C rfl (lt79 (by decide)) rfl rfl (by decide) inT3 tb_2_107 rfl dX3_placeThings_4 rfl ?_
      refine x_geti (j := 3) 10 C rfl (lt79 (by decide)) rfl rfl (by decide) inT9 tb_1_46 rfl dX3_placeThings_7 rfl (fun r7 => ?_)
      refine x_icmp_ge 63 13 C dX3_placeThings_10 rfl rfl (by omega) (by omega) (fun h10 => ?_) (fun h10 => ?_)
      · refine x_vret C T dX3_placeThings_63 ?_
        exact PV_i ⟨hK1, fun t ht => hd t (by omega)⟩
      refine x_aload_n 14 C dX3_placeThings_13 rfl rfl rfl ?_
      refine x_getr (j := 1) 17 C rfl (lt79 (by decide)) rfl rfl (by decide) inT3 tb_2_108 rfl dX3_placeThings_14 rfl ?_
      refine x_aload_n 18 C dX3_placeThings_17 rfl rfl rfl ?_
      refine x_getr (j := 0) 21 C rfl (lt79 (by decide)) rfl rfl (by decide) inT3 tb_2_107 rfl dX3_placeThings_18 rfl ?_
      refine x_getr (j := 7) 24 C rfl (lt79 (by decide)) rfl rfl (by decide) inT9 tb_1_58 rfl dX3_placeThings_21 rfl ?_
      refine x_iload_n 25 C dX3_placeThings_24 rfl rfl rfl ?_
      refine x_iald 26 C rfl (lt79 (by decide)) dX3_placeThings_25 rfl (by omega) (by omega) (fun r25 => ?_)
      refine x_aald0 27 C rfl (lt79 (by decide)) dX3_placeThings_26 rfl (by omega) (by omega) rfl ?_
      rw [e6] at r25 ⊢
      refine x_astore_n3 28 C dX3_placeThings_27 rfl rfl ?_
      refine x_aload_n 29 C dX3_placeThings_28 rfl rfl rfl ?_
      refine x_getr (j := 4) 32 C rfl (lt79 (by decide)) rfl rfl (by decide) inT3 tb_2_111 rfl dX3_placeThings_29 rfl ?_
      refine x_iload_n 33 C dX3_placeThings_32 rfl rfl rfl ?_
      refine x_aload_n 34 C dX3_placeThings_33 rfl rfl rfl ?_
      refine x_iload_n 35 C dX3_placeThings_34 rfl rfl rfl ?_
      refine x_aload_n 36 C dX3_placeThings_35 rfl rfl rfl ?_
      refine x_getr (j := 0) 39 C rfl (lt79 (by decide)) rfl rfl (by decide) inT3 tb_2_107 rfl dX3_placeThings_36 rfl ?_
      refine x_getr (j := 4) 42 C rfl (lt79 (by decide)) rfl rfl (by decide) inT9 tb_1_49 rfl dX3_placeThings_39 rfl ?_
      refine x_iload_n 43 C dX3_placeThings_42 rfl rfl rfl ?_
      refine x_iald 44 C rfl (lt79 (by decide)) dX3_placeThings_43 rfl (by omega) (by omega) (fun r43 => ?_)
      refine x_aload_n 45 C dX3_placeThings_44 rfl rfl rfl ?_
      refine x_getr (j := 0) 48 C rfl (lt79 (by decide)) rfl rfl (by decide) inT3 tb_2_107 rfl dX3_placeThings_45 rfl ?_
      refine x_getr (j := 6) 51 C rfl (lt79 (by decide)) rfl rfl (by decide) inT9 tb_1_55 rfl dX3_placeThings_48 rfl ?_
      refine x_iload_n 52 C dX3_placeThings_51 rfl rfl rfl ?_
      refine x_iald 53 C rfl (lt79 (by decide)) dX3_placeThings_52 rfl (by omega) (by omega) (fun r52 => ?_)
      rw [e3, e5]
      have hw := whereF_in (k := σ 6 i) (h := σ 3 i) (n := σ 5 i) (m := m) (by omega) (by omega) hm
      refine x_cellIn 56 C dX3_placeThings_53 rfl tb_3_66 (kd := (σ 6 i).toNat) (by omega) (by omega) (by omega) (by omega) ⟨by decide, by decide⟩ (Nat.le_of_ble_eq_true rfl) rfl ?_
      rw [show (((σ 6 i).toNat : Nat) : Int) = σ 6 i by omega]
      refine x_iast 57 C rfl (lt79 (by decide)) dX3_placeThings_56 rfl (by omega) (by omega) (by omega) ?_
      refine x_iinc_2 60 C dX3_placeThings_57 rfl rfl ?_
      refine x_goto 2 C dX3_placeThings_60 rfl ?_
      refine x_drop_3 ?_
      refine ih _ ?_ (i + 1) _ _ rfl ⟨by omega, by omega, Kp_up hK1 (by omega), fun t ht => ?_⟩
      · omega
      · rw [hii]
        by_cases hti : t = i
        · subst hti; rw [up_s]
        · rw [up_i hti]; exact hd t (by omega)
  exact L2 _ 0 _ _ rfl ⟨by omega, rfl, Kp_refl σ, fun t ht => absurd ht (by omega)⟩

theorem yF_0 {c w : Int} : yF c w 0 = c / 6 := by unfold yF; (repeat' split) <;> omega
theorem xF_0 {c w : Int} : xF c w 0 = c % 6 := by unfold xF; (repeat' split) <;> omega
theorem yF_s {c w : Int} {i : Nat} (hw : 0 ≤ w ∧ w ≤ 3) : yF c w i + ([-1, 0, 1, 0] : List Int).getD w.toNat 0 = yF c w (i + 1) := by
  have : w = 0 ∨ w = 1 ∨ w = 2 ∨ w = 3 := by omega
  rcases this with rfl | rfl | rfl | rfl
  · show c / 6 - (i : Int) + -1 = c / 6 - ((i + 1 : Nat) : Int); omega
  · show c / 6 + 0 = c / 6; omega
  · show c / 6 + (i : Int) + 1 = c / 6 + ((i + 1 : Nat) : Int); omega
  · show c / 6 + 0 = c / 6; omega
theorem xF_s {c w : Int} {i : Nat} (hw : 0 ≤ w ∧ w ≤ 3) : xF c w i + ([0, 1, 0, -1] : List Int).getD w.toNat 0 = xF c w (i + 1) := by
  have : w = 0 ∨ w = 1 ∨ w = 2 ∨ w = 3 := by omega
  rcases this with rfl | rfl | rfl | rfl
  · show c % 6 + 0 = c % 6; omega
  · show c % 6 + (i : Int) + 1 = c % 6 + ((i + 1 : Nat) : Int); omega
  · show c % 6 + 0 = c % 6; omega
  · show c % 6 - (i : Int) + -1 = c % 6 - ((i + 1 : Nat) : Int); omega
theorem yF_in {c w : Int} {i : Nat} (hc : 0 ≤ c ∧ c ≤ 35) (hi : i ≤ 5) : -5 ≤ yF c w i ∧ yF c w i ≤ 10 := by unfold yF; (repeat' split) <;> omega
theorem xF_in {c w : Int} {i : Nat} (hc : 0 ≤ c ∧ c ≤ 35) (hi : i ≤ 5) : -5 ≤ xF c w i ∧ xF c w i ≤ 10 := by unfold xF; (repeat' split) <;> omega
theorem tallF_in {H : Nat → Int} {c w : Int} (h : ∀ i, 0 ≤ H i ∧ H i ≤ 9) : ∀ f, -1 ≤ tallF H c w f ∧ tallF H c w f ≤ 9
  | 0 => ⟨Int.le_refl _, show (-1 : Int) ≤ 9 by decide⟩
  | f + 1 => by
    have h1 := tallF_in (c := c) (w := w) h f
    have h2 := h (cellF c w (f + 1)).toNat
    simp only [tallF]
    split <;> omega
theorem cell_at {c w : Int} {f : Nat} (h1 : 0 ≤ yF c w f ∧ yF c w f < 6) (h2 : 0 ≤ xF c w f ∧ xF c w f < 6) : cellF c w f = 6 * yF c w f + xF c w f := if_pos ⟨h1.1, h1.2, h2.1, h2.2⟩
theorem cell_no {c w : Int} {f : Nat} (h : ¬ (0 ≤ yF c w f ∧ yF c w f < 6) ∨ ¬ (0 ≤ xF c w f ∧ xF c w f < 6)) : cellF c w f = -1 := if_neg (by omega)
set_option maxHeartbeats 4000000 in
set_option maxRecDepth 100000 in
theorem c_X3_findView {l : Launch} {G : Gt} {ρ : Nat → Nat} {tc : Nat} {cl : Nat → Nat} {σ : Sig} {s : Nat} (hs : (s : Int) < σ 1 8) (hT : TI σ) : MX l yX3_findView cX3_findView 10 none 1 21 G (NN tc) ρ (shp tc cl) [.ref (ρ 32), .int (iZ (s : Int))] σ (PV (fun σ' => Kp 35 35 σ σ' ∧ ∀ f : Nat, 1 ≤ f → f ≤ 5 → σ' 35 f = viewF (σ 2) (σ 7 s) (σ 8 s) f)) := by
  refine MX_of [some (.ref (ρ 32)), some (.int (iZ (s : Int))), none, none, none, none, none, none, none, none] (by decide +kernel) rfl rfl (Nat.le_of_ble_eq_true rfl) ?_
  intro K hKl C T hRng
  subst hKl
  have h8 := hT.2.2.2.1
  have hq := hT.2.2.2.2 s
  have hH : ∀ i, 0 ≤ σ 2 i ∧ σ 2 i ≤ 9 := fun i => (hT.2.2.2.2 i).1
  have hii : ((s : Int)).toNat = s := Int.toNat_natCast s
  have hHb := hH (σ 7 s).toNat
  refine x_aload_n 1 C dX3_findView_0 rfl rfl rfl ?_
  refine x_getr (j := 0) 4 C rfl (lt79 (by decide)) rfl rfl (by decide) inT3 tb_2_107 rfl dX3_findView_1 rfl ?_
  refine x_getr (j := 10) 7 C rfl (lt79 (by decide)) rfl rfl (by decide) inT9 tb_1_66 rfl dX3_findView_4 rfl ?_
  refine x_iload_n 8 C dX3_findView_7 rfl rfl rfl ?_
  skip
  refine x_iald 9 C rfl (lt79 (by decide)) dX3_findView_8 rfl (by omega) (by omega) (fun r8 => ?_)
  rw [hii] at r8 ⊢
  refine x_istore_n2 10 C dX3_findView_9 rfl rfl ?_
  refine x_aload_n 11 C dX3_findView_10 rfl rfl rfl ?_
  refine x_getr (j := 0) 14 C rfl (lt79 (by decide)) rfl rfl (by decide) inT3 tb_2_107 rfl dX3_findView_11 rfl ?_
  refine x_getr (j := 9) 17 C rfl (lt79 (by decide)) rfl rfl (by decide) inT9 tb_1_64 rfl dX3_findView_14 rfl ?_
  refine x_iload_n 18 C dX3_findView_17 rfl rfl rfl ?_
  refine x_iald 19 C rfl (lt79 (by decide)) dX3_findView_18 rfl (by omega) (by omega) (fun r18 => ?_)
  rw [hii] at r18 ⊢
  refine x_bipush 21 C dX3_findView_19 rfl rfl ?_
  refine x_idiv 22 C dX3_findView_21 rfl (by omega) (by omega) ?_
  refine x_istore_n3 23 C dX3_findView_22 rfl rfl ?_
  refine x_aload_n 24 C dX3_findView_23 rfl rfl rfl ?_
  refine x_getr (j := 0) 27 C rfl (lt79 (by decide)) rfl rfl (by decide) inT3 tb_2_107 rfl dX3_findView_24 rfl ?_
  refine x_getr (j := 9) 30 C rfl (lt79 (by decide)) rfl rfl (by decide) inT9 tb_1_64 rfl dX3_findView_27 rfl ?_
  refine x_iload_n 31 C dX3_findView_30 rfl rfl rfl ?_
  refine x_iald 32 C rfl (lt79 (by decide)) dX3_findView_31 rfl (by omega) (by omega) (fun r31 => ?_)
  rw [hii] at r31 ⊢
  refine x_bipush 34 C dX3_findView_32 rfl rfl ?_
  refine x_irem 35 C dX3_findView_34 rfl (by omega) (by omega) ?_
  refine x_istore_4 37 C dX3_findView_35 rfl rfl ?_
  refine x_aload_n 38 C dX3_findView_37 rfl rfl rfl ?_
  refine x_getr (j := 0) 41 C rfl (lt79 (by decide)) rfl rfl (by decide) inT3 tb_2_107 rfl dX3_findView_38 rfl ?_
  refine x_getr (j := 0) 44 C rfl (lt79 (by decide)) rfl rfl (by decide) inT9 tb_1_37 rfl dX3_findView_41 rfl ?_
  refine x_aload_n 45 C dX3_findView_44 rfl rfl rfl ?_
  refine x_getr (j := 0) 48 C rfl (lt79 (by decide)) rfl rfl (by decide) inT3 tb_2_107 rfl dX3_findView_45 rfl ?_
  refine x_getr (j := 9) 51 C rfl (lt79 (by decide)) rfl rfl (by decide) inT9 tb_1_64 rfl dX3_findView_48 rfl ?_
  refine x_iload_n 52 C dX3_findView_51 rfl rfl rfl ?_
  refine x_iald 53 C rfl (lt79 (by decide)) dX3_findView_52 rfl (by omega) (by omega) (fun r52 => ?_)
  rw [hii] at r52 ⊢
  refine x_iald 54 C rfl (lt79 (by decide)) dX3_findView_53 rfl (by omega) (by omega) (fun r53 => ?_)
  refine x_istore_5 56 C dX3_findView_54 rfl rfl ?_
  refine x_iconst 57 C dX3_findView_56 rfl ?_
  refine x_istore_6 59 C dX3_findView_57 rfl rfl ?_
  refine x_iconst 60 C dX3_findView_59 rfl ?_
  refine x_istore_7 62 C dX3_findView_60 rfl rfl ?_
  have L62 : ∀ (mz : Nat) (i : Nat) (y tl : Int) (s1 : Sig) (x8 x9 : Option Value), mz = 5 - i → (i ≤ 5 ∧ y = ((i + 1 : Nat) : Int) ∧ tl = tallF (σ 2) (σ 7 s) (σ 8 s) i ∧ Kp 35 35 σ s1 ∧ (∀ f : Nat, 1 ≤ f → f ≤ i → s1 35 f = viewF (σ 2) (σ 7 s) (σ 8 s) f)) → Ex K G (NN tc) ρ (shp tc cl) 62 [some (.ref (ρ 32)), some (.int (iZ (s : Int))), some (.int (iZ (σ 8 s))), some (.int (iZ (yF (σ 7 s) (σ 8 s) i))), some (.int (iZ (xF (σ 7 s) (σ 8 s) i))), some (.int (iZ (σ 2 (σ 7 s).toNat))), some (.int (iZ tl)), some (.int (iZ y)), x8, x9] [] s1 := by
    intro mz
    induction mz using Nat.strongRecOn with
    | ind mz ih =>
      intro i y tl s1 x8 x9 hmz hinv
      obtain ⟨hi, rfl, rfl, hK1, hd⟩ := hinv
      have hi1 : (((i + 1 : Nat) : Int)).toNat = i + 1 := Int.toNat_natCast _
      have htl := tallF_in (H := σ 2) (c := σ 7 s) (w := σ 8 s) hH i
      have hy := yF_in (c := σ 7 s) (w := σ 8 s) (i := i) (by omega) (by omega)
      have hx := xF_in (c := σ 7 s) (w := σ 8 s) (i := i) (by omega) (by omega)
      refine x_iload 64 C dX3_findView_62 rfl rfl ?_
      refine x_bipush 66 C dX3_findView_64 rfl rfl ?_
      refine x_icmp_ge 173 69 C dX3_findView_66 rfl rfl (by omega) (by omega) (fun h66 => ?_) (fun h66 => ?_)
      · refine x_vret C T dX3_findView_173 ?_
        exact PV_i ⟨hK1, fun f h1 h2 => hd f h1 (by omega)⟩
      refine x_iload_n 70 C dX3_findView_69 rfl rfl rfl ?_
      refine x_getsD 73 C (host := "FirstSeen") (by decide +kernel) dX3_findView_70 rfl ?_
      refine x_iload_n 74 C dX3_findView_73 rfl rfl rfl ?_
      refine x_taldD 75 C dX3_findView_74 rfl (by omega) ?_
      change Ex K G (NN tc) ρ (shp tc cl) 75 _ (.int (iZ (([-1, 0, 1, 0] : List Int).getD (σ 8 s).toNat 0)) :: .int (iZ (yF (σ 7 s) (σ 8 s) i)) :: _) s1
      refine x_iadd 76 C dX3_findView_75 rfl ?_
      rw [yF_s (by omega)]
      refine x_istore_n3 77 C dX3_findView_76 rfl rfl ?_
      refine x_iload 79 C dX3_findView_77 rfl rfl ?_
      refine x_getsA 82 C (host := "FirstSeen") (by decide +kernel) dX3_findView_79 rfl ?_
      refine x_iload_n 83 C dX3_findView_82 rfl rfl rfl ?_
      refine x_taldA 84 C dX3_findView_83 rfl (by omega) ?_
      refine x_iadd 85 C dX3_findView_84 rfl ?_
      rw [xF_s (by omega)]
      refine x_istore_4 87 C dX3_findView_85 rfl rfl ?_
      refine x_aload_n 88 C dX3_findView_87 rfl rfl rfl ?_
      refine x_getr (j := 5) 91 C rfl (lt79 (by decide)) rfl rfl (by decide) inT3 tb_2_112 rfl dX3_findView_88 rfl ?_
      refine x_iload 93 C dX3_findView_91 rfl rfl ?_
      refine x_iconst 94 C dX3_findView_93 rfl ?_
      refine x_iast 95 C rfl (lt79 (by decide)) dX3_findView_94 rfl (by omega) (by omega) (by omega) ?_
      have J167 : ∀ (tl : Int) (s3 : Sig) (x8 x9 : Option Value), (tl = tallF (σ 2) (σ 7 s) (σ 8 s) (i + 1) ∧ Kp 35 35 σ s3 ∧ (∀ f : Nat, 1 ≤ f → f ≤ i + 1 → s3 35 f = viewF (σ 2) (σ 7 s) (σ 8 s) f)) → Ex K G (NN tc) ρ (shp tc cl) 167 [some (.ref (ρ 32)), some (.int (iZ (s : Int))), some (.int (iZ (σ 8 s))), some (.int (iZ (yF (σ 7 s) (σ 8 s) (i + 1)))), some (.int (iZ (xF (σ 7 s) (σ 8 s) (i + 1)))), some (.int (iZ (σ 2 (σ 7 s).toNat))), some (.int (iZ tl)), some (.int (iZ ((i + 1 : Nat) : Int))), x8, x9] [] s3 := by
        intro tl s3 x8 x9 hinv
        obtain ⟨htl, hK3, hd3⟩ := hinv
        refine x_iinc_7 170 C dX3_findView_167 rfl rfl ?_
        refine x_goto 62 C dX3_findView_170 rfl ?_
        exact ih _ (by omega) (i + 1) _ _ _ _ _ rfl ⟨by omega, by omega, htl, hK3, hd3⟩
      rw [hi1]
      obtain ⟨s2, hs2⟩ : ∃ s2, up s1 35 (i + 1) (-1) = s2 := ⟨_, rfl⟩
      rw [hs2]
      have hK2 : Kp 35 35 σ s2 := by rw [← hs2]; exact Kp_up hK1 (by omega)
      have e22 : s2 2 = σ 2 := hK2 2 (by omega) (by omega)
      have d2 : ∀ f : Nat, 1 ≤ f → f ≤ i → s2 35 f = viewF (σ 2) (σ 7 s) (σ 8 s) f := fun f h1 h2 => by rw [← hs2, up_i (by omega)]; exact hd f h1 h2
      have v2 : s2 35 (i + 1) = -1 := by rw [← hs2, up_s]
      refine x_iload_n 96 C dX3_findView_95 rfl rfl rfl ?_
      refine x_bipush 98 C dX3_findView_96 rfl rfl ?_
      refine x_callSNe (host := "FirstSeen") 101 C dX3_findView_98 rfl (c_X11_isWithin (v := yF (σ 7 s) (σ 8 s) (i + 1)) (b := 6) (by have := yF_in (c := σ 7 s) (w := σ 8 s) (i := i + 1) (by omega) (by omega); omega) (by omega)) (by decide +kernel) tb_2_215 tb_1_1 tb_2_216 (na := 2) (by decide +kernel) rfl ⟨by decide, by decide⟩ rfl (Nat.le_of_ble_eq_true rfl) rfl (fun r98 => ?_)
      first
        | refine x_ifb_eq 167 104 C dX3_findView_101 rfl rfl (fun h101 => ?_) (fun h101 => ?_)
        | refine x_if_eq 167 104 C dX3_findView_101 rfl rfl (by omega) (fun h101 => ?_) (fun h101 => ?_)
      · have hce := cell_no (c := σ 7 s) (w := σ 8 s) (f := i + 1) (Or.inl h101)
        have hj : tallF (σ 2) (σ 7 s) (σ 8 s) i = tallF (σ 2) (σ 7 s) (σ 8 s) (i + 1) ∧ Kp 35 35 σ s2 ∧ (∀ f : Nat, 1 ≤ f → f ≤ i + 1 → s2 35 f = viewF (σ 2) (σ 7 s) (σ 8 s) f) := ⟨by simp only [tallF]; rw [if_pos hce], hK2, fun f h1 h2 => by
          by_cases hfi : f = i + 1
          · subst hfi
            rw [v2]
            unfold viewF
            rw [if_neg (by omega)]
          · exact d2 f h1 (by omega)⟩
        exact J167 _ _ _ _ hj
      refine x_iload 106 C dX3_findView_104 rfl rfl ?_
      refine x_bipush 108 C dX3_findView_106 rfl rfl ?_
      refine x_callSNe (host := "FirstSeen") 111 C dX3_findView_108 rfl (c_X11_isWithin (v := xF (σ 7 s) (σ 8 s) (i + 1)) (b := 6) (by have := xF_in (c := σ 7 s) (w := σ 8 s) (i := i + 1) (by omega) (by omega); omega) (by omega)) (by decide +kernel) tb_2_215 tb_1_1 tb_2_216 (na := 2) (by decide +kernel) rfl ⟨by decide, by decide⟩ rfl (Nat.le_of_ble_eq_true rfl) rfl (fun r108 => ?_)
      first
        | refine x_ifb_eq 167 114 C dX3_findView_111 rfl rfl (fun h111 => ?_) (fun h111 => ?_)
        | refine x_if_eq 167 114 C dX3_findView_111 rfl rfl (by omega) (fun h111 => ?_) (fun h111 => ?_)
      · have hce := cell_no (c := σ 7 s) (w := σ 8 s) (f := i + 1) (Or.inr h111)
        have hj : tallF (σ 2) (σ 7 s) (σ 8 s) i = tallF (σ 2) (σ 7 s) (σ 8 s) (i + 1) ∧ Kp 35 35 σ s2 ∧ (∀ f : Nat, 1 ≤ f → f ≤ i + 1 → s2 35 f = viewF (σ 2) (σ 7 s) (σ 8 s) f) := ⟨by simp only [tallF]; rw [if_pos hce], hK2, fun f h1 h2 => by
          by_cases hfi : f = i + 1
          · subst hfi
            rw [v2]
            unfold viewF
            rw [if_neg (by omega)]
          · exact d2 f h1 (by omega)⟩
        exact J167 _ _ _ _ hj
      refine x_bipush 116 C dX3_findView_114 rfl rfl ?_
      refine x_iload_n 117 C dX3_findView_116 rfl rfl rfl ?_
      refine x_imul 118 C dX3_findView_117 rfl ?_
      refine x_iload 120 C dX3_findView_118 rfl rfl ?_
      refine x_iadd 121 C dX3_findView_120 rfl ?_
      refine x_istore_8 123 C dX3_findView_121 rfl rfl ?_
      refine x_aload_n 124 C dX3_findView_123 rfl rfl rfl ?_
      refine x_getr (j := 0) 127 C rfl (lt79 (by decide)) rfl rfl (by decide) inT3 tb_2_107 rfl dX3_findView_124 rfl ?_
      refine x_getr (j := 0) 130 C rfl (lt79 (by decide)) rfl rfl (by decide) inT9 tb_1_37 rfl dX3_findView_127 rfl ?_
      refine x_iload 132 C dX3_findView_130 rfl rfl ?_
      refine x_iald 133 C rfl (lt79 (by decide)) dX3_findView_132 rfl (by omega) (by omega) (fun r132 => ?_)
      rw [e22] at r132 ⊢
      have hHc := hH (6 * yF (σ 7 s) (σ 8 s) (i + 1) + xF (σ 7 s) (σ 8 s) (i + 1)).toNat
      have hce := cell_at (c := σ 7 s) (w := σ 8 s) (f := i + 1) (by omega) (by omega)
      refine x_istore_9 135 C dX3_findView_133 rfl rfl ?_
      have J158 : ∀ (s3 : Sig), (Kp 35 35 σ s3 ∧ (∀ f : Nat, 1 ≤ f → f ≤ i + 1 → s3 35 f = viewF (σ 2) (σ 7 s) (σ 8 s) f)) → Ex K G (NN tc) ρ (shp tc cl) 158 [some (.ref (ρ 32)), some (.int (iZ (s : Int))), some (.int (iZ (σ 8 s))), some (.int (iZ (yF (σ 7 s) (σ 8 s) (i + 1)))), some (.int (iZ (xF (σ 7 s) (σ 8 s) (i + 1)))), some (.int (iZ (σ 2 (σ 7 s).toNat))), some (.int (iZ (tallF (σ 2) (σ 7 s) (σ 8 s) i))), some (.int (iZ ((i + 1 : Nat) : Int))), some (.int (iZ (6 * yF (σ 7 s) (σ 8 s) (i + 1) + xF (σ 7 s) (σ 8 s) (i + 1)))), some (.int (iZ (σ 2 (6 * yF (σ 7 s) (σ 8 s) (i + 1) + xF (σ 7 s) (σ 8 s) (i + 1)).toNat)))] [] s3 := by
        intro s3 hinv
        obtain ⟨hK3, hd3⟩ := hinv
        have hj : (if tallF (σ 2) (σ 7 s) (σ 8 s) i < σ 2 (6 * yF (σ 7 s) (σ 8 s) (i + 1) + xF (σ 7 s) (σ 8 s) (i + 1)).toNat then σ 2 (6 * yF (σ 7 s) (σ 8 s) (i + 1) + xF (σ 7 s) (σ 8 s) (i + 1)).toNat else tallF (σ 2) (σ 7 s) (σ 8 s) i) = tallF (σ 2) (σ 7 s) (σ 8 s) (i + 1) ∧ Kp 35 35 σ s3 ∧ (∀ f : Nat, 1 ≤ f → f ≤ i + 1 → s3 35 f = viewF (σ 2) (σ 7 s) (σ 8 s) f) := ⟨by rw [show tallF (σ 2) (σ 7 s) (σ 8 s) (i + 1) = max (tallF (σ 2) (σ 7 s) (σ 8 s) i) (σ 2 (6 * yF (σ 7 s) (σ 8 s) (i + 1) + xF (σ 7 s) (σ 8 s) (i + 1)).toNat) by simp only [tallF]; rw [if_neg (by rw [hce]; omega), hce], Int.max_def]; (repeat' split) <;> omega, hK3, hd3⟩
        refine x_iload 160 C dX3_findView_158 rfl rfl ?_
        refine x_iload 162 C dX3_findView_160 rfl rfl ?_
        refine x_mmax 165 C tb_3_76 tb_3_77 tb_1_16 tb_3_78 dX3_findView_162 rfl (by omega) (by omega) ⟨by decide, Nat.le_of_ble_eq_true rfl⟩ rfl ?_
        refine x_istore_6 167 C dX3_findView_165 rfl rfl ?_
        exact J167 _ _ _ _ hj
      have J149 : ∀ (u : Unit), (tallF (σ 2) (σ 7 s) (σ 8 s) i ≤ σ 2 (σ 7 s).toNat ∨ tallF (σ 2) (σ 7 s) (σ 8 s) i < σ 2 (6 * yF (σ 7 s) (σ 8 s) (i + 1) + xF (σ 7 s) (σ 8 s) (i + 1)).toNat) → Ex K G (NN tc) ρ (shp tc cl) 149 [some (.ref (ρ 32)), some (.int (iZ (s : Int))), some (.int (iZ (σ 8 s))), some (.int (iZ (yF (σ 7 s) (σ 8 s) (i + 1)))), some (.int (iZ (xF (σ 7 s) (σ 8 s) (i + 1)))), some (.int (iZ (σ 2 (σ 7 s).toNat))), some (.int (iZ (tallF (σ 2) (σ 7 s) (σ 8 s) i))), some (.int (iZ ((i + 1 : Nat) : Int))), some (.int (iZ (6 * yF (σ 7 s) (σ 8 s) (i + 1) + xF (σ 7 s) (σ 8 s) (i + 1)))), some (.int (iZ (σ 2 (6 * yF (σ 7 s) (σ 8 s) (i + 1) + xF (σ 7 s) (σ 8 s) (i + 1)).toNat)))] [] s2 := by
        intro u hinv
        have hvis := hinv
        have h158 : ∀ s3, s3 = up s2 35 (((i + 1 : Nat) : Int)).toNat (6 * yF (σ 7 s) (σ 8 s) (i + 1) + xF (σ 7 s) (σ 8 s) (i + 1)) → Kp 35 35 σ s3 ∧ (∀ f : Nat, 1 ≤ f → f ≤ i + 1 → s3 35 f = viewF (σ 2) (σ 7 s) (σ 8 s) f) := by
          intro s3 h3
          subst h3
          refine ⟨Kp_up hK2 (by omega), fun f h1 h2 => ?_⟩
          rw [hi1]
          by_cases hfi : f = i + 1
          · subst hfi
            rw [up_s]
            unfold viewF
            rw [hce, if_pos (by rw [show i + 1 - 1 = i by omega]; omega)]
          · rw [up_i hfi]; exact d2 f h1 (by omega)
        refine x_aload_n 150 C dX3_findView_149 rfl rfl rfl ?_
        refine x_getr (j := 5) 153 C rfl (lt79 (by decide)) rfl rfl (by decide) inT3 tb_2_112 rfl dX3_findView_150 rfl ?_
        refine x_iload 155 C dX3_findView_153 rfl rfl ?_
        refine x_iload 157 C dX3_findView_155 rfl rfl ?_
        refine x_iast 158 C rfl (lt79 (by decide)) dX3_findView_157 rfl (by omega) (by omega) (by omega) ?_
        first | exact J158 _ h158 | exact J158 _ (h158 _ rfl)
      refine x_iload 137 C dX3_findView_135 rfl rfl ?_
      refine x_iload 139 C dX3_findView_137 rfl rfl ?_
      refine x_icmp_le 149 142 C dX3_findView_139 rfl rfl (by omega) (by omega) (fun h139 => ?_) (fun h139 => ?_)
      · exact J149 () (by omega)
      refine x_iload 144 C dX3_findView_142 rfl rfl ?_
      refine x_iload 146 C dX3_findView_144 rfl rfl ?_
      refine x_icmp_le 158 149 C dX3_findView_146 rfl rfl (by omega) (by omega) (fun h146 => ?_) (fun h146 => ?_)
      · have h158 : Kp 35 35 σ s2 ∧ (∀ f : Nat, 1 ≤ f → f ≤ i + 1 → s2 35 f = viewF (σ 2) (σ 7 s) (σ 8 s) f) := by
          refine ⟨hK2, fun f h1 h2 => ?_⟩
          by_cases hfi : f = i + 1
          · subst hfi
            rw [v2]
            unfold viewF
            rw [hce, if_neg (by rw [show i + 1 - 1 = i by omega]; omega)]
          · exact d2 f h1 (by omega)
        first | exact J158 _ h158 | exact J158 _ (h158 _ rfl)
      exact J149 () (by omega)
  rw [show σ 7 s / 6 = yF (σ 7 s) (σ 8 s) 0 from yF_0.symm, show σ 7 s % 6 = xF (σ 7 s) (σ 8 s) 0 from xF_0.symm]
  exact L62 _ 0 _ _ _ _ _ rfl ⟨by omega, rfl, rfl, Kp_refl σ, fun f h1 h2 => absurd h1 (by omega)⟩
