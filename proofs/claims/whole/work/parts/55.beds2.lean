/-- the lists of all ways of all beds -/
def HLA (X : Nat → RuT) (σ s1 : Sig) : Prop := ∀ s : Nat, (s : Int) < σ 1 8 → ∀ w : Nat, w < 4 → LKa s1 (4 * s + w) (seenG X (cT σ) (σ 7 s) (w : Nat) (σ 9 s) s) (wrth X (cT σ) (σ 9 s) s)
theorem seenG_le6 {X : Nat → RuT} {σ : Sig} (hT : TI σ) (s w : Nat) (hw : w < 4) : (seenG X (cT σ) (σ 7 s) (w : Nat) (σ 9 s) s).length ≤ 6 := by
  have := hT.2.2.2.2 s
  exact seenG_le (TI_cT hT) (by omega) (by omega)
/-- the world but for the way of s and what looking changes -/
def K8 (σ : Sig) (s : Nat) (s1 : Sig) : Prop := (∀ a, a ≠ 8 → ¬ (33 ≤ a ∧ a ≤ 38) → ¬ (81 ≤ a ∧ a < 97 ∧ a % 3 = 0) → s1 a = σ a) ∧ ∀ i, i ≠ s → s1 8 i = σ 8 i
theorem K8_cT {σ s1 : Sig} {s : Nat} (h : K8 σ s s1) : cT s1 = tS (cT σ) s (σ 9 s) (s1 8 s) := by
  rw [← cT_S]
  refine cT_keep1 (fun a h1 h2 => ?_)
  by_cases a8 : a = 8
  · subst a8
    funext b
    by_cases hb : b = s
    · subst hb; rw [tS_8s]
    · rw [tS_8 hb]; exact h.2 b hb
  · by_cases a9 : a = 9
    · subst a9
      rw [h.1 9 (by omega) (by omega) (by omega)]
      funext b
      by_cases hb : b = s
      · subst hb; rw [tS_9s]
      · rw [tS_9 hb]
    · rw [tS_row a8 a9]; exact h.1 a a8 (by omega) (by omega)
theorem K8_CW {X : Nat → RuT} {tc : Nat} {cl : Nat → Nat} {σ s1 : Sig} {s : Nat} (h : K8 σ s s1) (hW : CW X tc cl σ) (hw : 0 ≤ s1 8 s ∧ s1 8 s ≤ 3) : CW X tc cl s1 := by
  have hm := hW.1.2.2.2.2 s
  refine ⟨TI_keep1 (fun a h1 h2 => ?_) (TI_S (s := s) (m := σ 9 s) (w := s1 8 s) hW.1 (by omega) hw), ⟨hW.2.1.1, fun t ht => ?_⟩, by rw [h.1 1 (by omega) (by omega) (by omega)]; exact hW.2.2⟩
  · by_cases a8 : a = 8
    · subst a8
      funext b
      by_cases hb : b = s
      · subst hb; rw [tS_8s]
      · rw [tS_8 hb]; exact h.2 b hb
    · by_cases a9 : a = 9
      · subst a9
        rw [h.1 9 (by omega) (by omega) (by omega)]
        funext b
        by_cases hb : b = s
        · subst hb; rw [tS_9s]
        · rw [tS_9 hb]
      · rw [tS_row a8 a9]; exact h.1 a a8 (by omega) (by omega)
  · have := hW.2.1.1
    rw [h.1 (79 + 3 * t) (by omega) (by omega) (by omega), h.1 (79 + 3 * t + 1) (by omega) (by omega) (by omega)]
    exact hW.2.1.2 t ht
theorem K8_back {σ s1 : Sig} {s : Nat} (h : K8 σ s s1) : Kp 33 38 σ (up s1 8 s (σ 8 s)) := fun a h1 h2 => by
  by_cases a8 : a = 8
  · subst a8
    funext b
    by_cases hb : b = s
    · subst hb; rw [up_s]
    · rw [up_i hb]; exact h.2 b hb
  · rw [up_row a8]; exact h.1 a a8 h1 h2
theorem K8_up {σ s1 : Sig} {s : Nat} {v : Int} (h : K8 σ s s1) : K8 σ s (up s1 8 s v) := ⟨fun a h1 h2 h3 => by rw [up_row h1]; exact h.1 a h1 h2 h3, fun i hi => by rw [up_i hi]; exact h.2 i hi⟩
theorem K8_Kp {σ s1 s2 : Sig} {s : Nat} (h : K8 σ s s1) (hk : Kp 33 38 s1 s2) : K8 σ s s2 := ⟨fun a h1 h2 h3 => (hk a h2 h3).trans (h.1 a h1 h2 h3), fun i hi => (congrFun (hk 8 (by omega) (by omega)) i).trans (h.2 i hi)⟩
theorem Kp_K8 {σ s1 : Sig} (h : Kp 33 38 σ s1) (s : Nat) : K8 σ s s1 := ⟨fun a _ h2 h3 => h a h2 h3, fun i _ => congrFun (h 8 (by omega) (by omega)) i⟩
/-- as far as all ways have been looked -/
def HLP (X : Nat → RuT) (σ : Sig) (s k : Nat) (s1 : Sig) : Prop := ∀ q : Nat, (q : Int) < σ 1 8 → ∀ w : Nat, w < 4 → (q < s ∨ (q = s ∧ w < k)) → LKa s1 (4 * q + w) (seenG X (cT σ) (σ 7 q) (w : Nat) (σ 9 q) q) (wrth X (cT σ) (σ 9 q) q)
set_option maxHeartbeats 4000000 in
set_option maxRecDepth 100000 in
theorem c_X3_lookAllWays {l : Launch} {G : Gt} {ρ : Nat → Nat} {tc : Nat} {cl : Nat → Nat} {σ : Sig} {X : Nat → RuT} (hW : CW X tc cl σ) : MX l yX3_lookAllWays cX3_lookAllWays 4 none 5 129 G (NN tc) ρ (shp tc cl) [.ref (ρ 32)] σ (PV (fun σ' => Kp 33 38 σ σ' ∧ HLA X σ σ')) := by
  refine MX_of [some (.ref (ρ 32)), none, none, none] (by decide +kernel) rfl rfl (Nat.le_of_ble_eq_true rfl) ?_
  intro K hKl C T hRng
  subst hKl
  have hT := hW.1
  have h8 := hT.2.2.2.1
  refine x_iconst 1 C dX3_lookAllWays_0 rfl ?_
  refine x_istore_n1 2 C dX3_lookAllWays_1 rfl rfl ?_
  have L2 : ∀ (mz : Nat) (s : Nat) (y : Int) (s1 : Sig) (x2 x3 : Option Value), mz = 6 - s → ((s : Int) ≤ σ 1 8 ∧ y = s ∧ Kp 33 38 σ s1 ∧ HLP X σ s 0 s1) → Ex K G (NN tc) ρ (shp tc cl) 2 [some (.ref (ρ 32)), some (.int (iZ y)), x2, x3] [] s1 := by
    intro mz
    induction mz using Nat.strongRecOn with
    | ind mz ih =>
      intro s y s1 x2 x3 hmz hinv
      have ihs := ih
      obtain ⟨hs, rfl, hK1, hP1⟩ := hinv
      have hss : (s : Int).toNat = s := Int.toNat_natCast s
      have hqs := hT.2.2.2.2 s
      have e18 : s1 1 8 = σ 1 8 := congrFun (hK1 1 (by omega) (by omega)) 8
      have e8 : s1 8 (s : Int).toNat = σ 8 s := by rw [hss, hK1 8 (by omega) (by omega)]
      refine x_iload_n 3 C dX3_lookAllWays_2 rfl rfl rfl ?_
      refine x_aload_n 4 C dX3_lookAllWays_3 rfl rfl rfl ?_
      refine x_getr (j := 0) 7 C rfl (lt79 (by decide)) rfl rfl (by decide) inT3 tb_2_107 rfl dX3_lookAllWays_4 rfl ?_
      refine x_geti (j := 8) 10 C rfl (lt79 (by decide)) rfl rfl (by decide) inT9 tb_1_59 rfl dX3_lookAllWays_7 rfl (fun r7 => ?_)
      refine x_icmp_ge 67 13 C dX3_lookAllWays_10 rfl rfl (by omega) (by omega) (fun h10 => ?_) (fun h10 => ?_)
      · refine x_vret C T dX3_lookAllWays_67 ?_
        exact PV_i ⟨hK1, fun q hq w hw => hP1 q hq w hw (by omega)⟩
      refine x_aload_n 14 C dX3_lookAllWays_13 rfl rfl rfl ?_
      refine x_getr (j := 0) 17 C rfl (lt79 (by decide)) rfl rfl (by decide) inT3 tb_2_107 rfl dX3_lookAllWays_14 rfl ?_
      refine x_getr (j := 10) 20 C rfl (lt79 (by decide)) rfl rfl (by decide) inT9 tb_1_66 rfl dX3_lookAllWays_17 rfl ?_
      refine x_iload_n 21 C dX3_lookAllWays_20 rfl rfl rfl ?_
      refine x_iald 22 C rfl (lt79 (by decide)) dX3_lookAllWays_21 rfl (by omega) (by omega) (fun r21 => ?_)
      rw [e8] at r21 ⊢
      refine x_istore_n2 23 C dX3_lookAllWays_22 rfl rfl ?_
      refine x_iconst 24 C dX3_lookAllWays_23 rfl ?_
      refine x_istore_n3 25 C dX3_lookAllWays_24 rfl rfl ?_
      have L25 : ∀ (mz : Nat) (k : Nat) (y : Int) (s2 : Sig), mz = 4 - k → (k ≤ 4 ∧ y = k ∧ K8 σ s s2 ∧ HLP X σ s k s2) → Ex K G (NN tc) ρ (shp tc cl) 25 [some (.ref (ρ 32)), some (.int (iZ (s : Int))), some (.int (iZ (σ 8 s))), some (.int (iZ y))] [] s2 := by
        intro mz
        induction mz using Nat.strongRecOn with
        | ind mz ih =>
          intro k y s2 hmz hinv
          obtain ⟨hk, rfl, hE, hP2⟩ := hinv
          refine x_iload_n 26 C dX3_lookAllWays_25 rfl rfl rfl ?_
          refine x_iconst 27 C dX3_lookAllWays_26 rfl ?_
          refine x_icmp_ge 51 30 C dX3_lookAllWays_27 rfl rfl (by omega) (by omega) (fun h27 => ?_) (fun h27 => ?_)
          · refine x_aload_n 52 C dX3_lookAllWays_51 rfl rfl rfl ?_
            refine x_getr (j := 0) 55 C rfl (lt79 (by decide)) rfl rfl (by decide) inT3 tb_2_107 rfl dX3_lookAllWays_52 rfl ?_
            refine x_getr (j := 10) 58 C rfl (lt79 (by decide)) rfl rfl (by decide) inT9 tb_1_66 rfl dX3_lookAllWays_55 rfl ?_
            refine x_iload_n 59 C dX3_lookAllWays_58 rfl rfl rfl ?_
            refine x_iload_n 60 C dX3_lookAllWays_59 rfl rfl rfl ?_
            refine x_iast 61 C rfl (lt79 (by decide)) dX3_lookAllWays_60 rfl (by omega) (by omega) (by omega) ?_
            refine x_iinc_1 64 C dX3_lookAllWays_61 rfl rfl ?_
            refine x_goto 2 C dX3_lookAllWays_64 rfl ?_
            rw [hss]
            refine ihs _ (by omega) (s + 1) _ _ _ _ rfl ⟨by omega, by omega, K8_back hE, fun q hq w hw h => ?_⟩
            exact LKa_keep (hP2 q hq w hw (by omega)) (up_row (by omega)) (up_row (by omega)) (up_row (by omega))
          refine x_aload_n 31 C dX3_lookAllWays_30 rfl rfl rfl ?_
          refine x_getr (j := 0) 34 C rfl (lt79 (by decide)) rfl rfl (by decide) inT3 tb_2_107 rfl dX3_lookAllWays_31 rfl ?_
          refine x_getr (j := 10) 37 C rfl (lt79 (by decide)) rfl rfl (by decide) inT9 tb_1_66 rfl dX3_lookAllWays_34 rfl ?_
          refine x_iload_n 38 C dX3_lookAllWays_37 rfl rfl rfl ?_
          refine x_iload_n 39 C dX3_lookAllWays_38 rfl rfl rfl ?_
          refine x_iast 40 C rfl (lt79 (by decide)) dX3_lookAllWays_39 rfl (by omega) (by omega) (by omega) ?_
          rw [hss]
          obtain ⟨s3, hs3⟩ : ∃ s3, up s2 8 s (k : Int) = s3 := ⟨_, rfl⟩
          rw [hs3]
          have hE3 : K8 σ s s3 := by rw [← hs3]; exact K8_up hE
          have u8 : s3 8 s = (k : Int) := by rw [← hs3, up_s]
          have hW3 := K8_CW hE3 hW (by omega)
          have e183 : s3 1 8 = σ 1 8 := congrFun (hE3.1 1 (by omega) (by omega) (by omega)) 8
          refine x_aload_n 41 C dX3_lookAllWays_40 rfl rfl rfl ?_
          refine x_iload_n 42 C dX3_lookAllWays_41 rfl rfl rfl ?_
          refine x_callVv 45 C dX3_lookAllWays_42 rfl (c_X3_look (X := X) (s := s) hW3 (by omega)) rfl (lt79 (by decide)) rfl tb_3_160 tb_3_59 tb_3_60 tb_1_18 tb_3_61 (na := 1) (by decide +kernel) rfl ⟨by decide, by decide⟩ rfl (Nat.le_of_ble_eq_true rfl) rfl (fun s42 hq42 hR42 => ?_)
          obtain ⟨k1, k2, k3⟩ := hq42
          rw [u8, show 4 * s + ((k : Nat) : Int).toNat = 4 * s + k by omega] at k2 k3
          have k3' : LKa s42 (4 * s + k) (seenG X (cT σ) (σ 7 s) (k : Nat) (σ 9 s) s) (wrth X (cT σ) (σ 9 s) s) := by
            rw [K8_cT hE3, u8, hE3.1 9 (by omega) (by omega) (by omega), wrth_cong tS_low] at k3
            unfold seenT at k3
            rw [seenG_cong tS_low, tS_row (by omega) (by omega), tS_8s, tS_9s] at k3
            exact k3
          refine x_iinc_3 48 C dX3_lookAllWays_45 rfl rfl ?_
          refine x_goto 25 C dX3_lookAllWays_48 rfl ?_
          refine ih _ (by omega) (k + 1) _ _ rfl ⟨by omega, by omega, K8_Kp hE3 k1, fun q hq w hw h => ?_⟩
          by_cases hqw : q = s ∧ w = k
          · obtain ⟨rfl, rfl⟩ := hqw
            exact k3'
          · refine LKa_other (LKa_keep (hP2 q hq w hw (by omega)) ?_ ?_ ?_) k2 (by omega) (seenG_le6 hT q w hw) <;> rw [← hs3, up_row (by omega)]
      exact L25 _ 0 _ _ rfl ⟨by omega, rfl, Kp_K8 hK1 s, hP1⟩
  exact L2 _ 0 _ _ _ _ rfl ⟨by omega, rfl, Kp_refl σ, fun q hq w hw h => absurd h (by omega)⟩

set_option maxHeartbeats 4000000 in
set_option maxRecDepth 100000 in
theorem c_X3_digitOf {l : Launch} {G : Gt} {ρ : Nat → Nat} {tc : Nat} {cl : Nat → Nat} {σ : Sig} {s : Nat} (hT : TI σ) (hs : (s : Int) < σ 1 8) : MX l yX3_digitOf cX3_digitOf 4 (some .int) 0 0 G (NN tc) ρ (shp tc cl) [.ref (ρ 32), .int (iZ (s : Int))] σ (PE σ (pw10 (slN (cT σ)) s)) := by
  refine MX_of [some (.ref (ρ 32)), some (.int (iZ (s : Int))), none, none] (by decide +kernel) rfl rfl (Nat.le_of_ble_eq_true rfl) ?_
  intro K hKl C T hRng
  subst hKl
  have h8 := hT.2.2.2.1
  obtain ⟨n, hn⟩ : ∃ n : Nat, slN (cT σ) = n := ⟨_, rfl⟩
  have hn2 : (n : Int) = σ 1 8 := by rw [← hn, slN_T]; omega
  refine x_iconst 1 C dX3_digitOf_0 rfl ?_
  refine x_istore_n2 2 C dX3_digitOf_1 rfl rfl ?_
  refine x_iload_n 3 C dX3_digitOf_2 rfl rfl rfl ?_
  refine x_iconst 4 C dX3_digitOf_3 rfl ?_
  refine x_iadd 5 C dX3_digitOf_4 rfl ?_
  refine x_istore_n3 6 C dX3_digitOf_5 rfl rfl ?_
  have L6 : ∀ (mz : Nat) (k : Nat) (y v : Int), mz = n - (s + 1 + k) → (s + 1 + k ≤ n ∧ y = ((s + 1 + k : Nat) : Int) ∧ v = ((10 ^ k : Nat) : Int)) → Ex K G (NN tc) ρ (shp tc cl) 6 [some (.ref (ρ 32)), some (.int (iZ (s : Int))), some (.int (iZ v)), some (.int (iZ y))] [] σ := by
    intro mz
    induction mz using Nat.strongRecOn with
    | ind mz ih =>
      intro k y v hmz hinv
      obtain ⟨hk, rfl, rfl⟩ := hinv
      have hp10 : ((10 ^ k : Nat) : Int) ≤ 10000 := by
        have hk4 : k = 0 ∨ k = 1 ∨ k = 2 ∨ k = 3 ∨ k = 4 := by omega
        rcases hk4 with h | h | h | h | h <;> rw [h] <;> decide
      have hp0 : 0 ≤ ((10 ^ k : Nat) : Int) := Int.natCast_nonneg _
      refine x_iload_n 7 C dX3_digitOf_6 rfl rfl rfl ?_
      refine x_aload_n 8 C dX3_digitOf_7 rfl rfl rfl ?_
      refine x_getr (j := 0) 11 C rfl (lt79 (by decide)) rfl rfl (by decide) inT3 tb_2_107 rfl dX3_digitOf_8 rfl ?_
      refine x_geti (j := 8) 14 C rfl (lt79 (by decide)) rfl rfl (by decide) inT9 tb_1_59 rfl dX3_digitOf_11 rfl (fun r11 => ?_)
      refine x_icmp_ge 28 17 C dX3_digitOf_14 rfl rfl (by omega) (by omega) (fun h14 => ?_) (fun h14 => ?_)
      · refine x_iload_n 29 C dX3_digitOf_28 rfl rfl rfl ?_
        refine x_iret C T dX3_digitOf_29 ?_
        refine PE_i ?_ (by omega)
        unfold pw10
        rw [hn, show n - 1 - s = k by omega]
      refine x_iload_n 18 C dX3_digitOf_17 rfl rfl rfl ?_
      refine x_bipush 20 C dX3_digitOf_18 rfl rfl ?_
      refine x_imul 21 C dX3_digitOf_20 rfl ?_
      refine x_istore_n2 22 C dX3_digitOf_21 rfl rfl ?_
      refine x_iinc_3 25 C dX3_digitOf_22 rfl rfl ?_
      refine x_goto 6 C dX3_digitOf_25 rfl ?_
      refine ih _ ?_ (k + 1) _ _ rfl ⟨by omega, by omega, ?_⟩
      · omega
      · rw [Nat.pow_succ]; omega
  exact L6 _ 0 _ _ rfl ⟨by omega, by omega, rfl⟩

/-- only what is best of all beds changes -/
def KR (σ σ' : Sig) : Prop := ∀ a b, ¬ (a = 32 ∧ (b = 12 ∨ b = 13)) → σ' a b = σ a b
theorem KR_refl (σ : Sig) : KR σ σ := fun _ _ _ => rfl
theorem KR_trans {σ s s' : Sig} (h : KR σ s) (h2 : KR s s') : KR σ s' := fun a b hn => (h2 a b hn).trans (h a b hn)
theorem KR_up {σ s : Sig} {i : Nat} {v : Int} (h : KR σ s) (hi : i = 12 ∨ i = 13) : KR σ (up s 32 i v) := fun a b hn => by
  by_cases ha : a = 32
  · subst ha
    rw [up_i (by omega)]; exact h 32 b hn
  · rw [up_r ha]; exact h a b hn
theorem KR_row {σ s : Sig} {a : Nat} (h : KR σ s) (ha : a ≠ 32) : s a = σ a := funext fun b => h a b (by omega)
theorem KR_TI {σ s : Sig} (h : KR σ s) (hT : TI σ) : TI s := TI_keep (fun a ha => KR_row h (by omega)) hT
theorem KR_cT {σ s : Sig} (h : KR σ s) : cT s = cT σ := cT_keep (fun a ha => KR_row h (by omega))
theorem KR_HLA {X : Nat → RuT} {σ s : Sig} (h : KR σ s) (hA : HLA X σ σ) : HLA X s s := by
  intro q hq w hw
  rw [KR_cT h, KR_row h (show (7 : Nat) ≠ 32 by omega), KR_row h (show (9 : Nat) ≠ 32 by omega)]
  exact LKa_keep (hA q (by rw [← KR_row h (show (1 : Nat) ≠ 32 by omega)]; exact hq) w hw) (KR_row h (by omega)) (KR_row h (by omega)) (KR_row h (by omega))
/-- what standBed takes as given -/
def SBH (X : Nat → RuT) (σ : Sig) (W : Nat → Nat) (P : (Nat → Nat) → Prop) (i g : Nat) (wv d : Int) : Prop := TI σ ∧ HLA X σ σ ∧ (∀ j : Nat, (j : Int) < σ 1 8 → σ 39 j = (ordN (cT σ) j : Int)) ∧ okW W ∧ i ≤ slN (cT σ) ∧ g = gon (cT σ) (lsW X (cT σ) W) i ∧ wv = wsP X (cT σ) W i ∧ d = dgP (cT σ) W i ∧ BDs X (cT σ) P (σ 32 12) (σ 32 13)
/-- what it then gives -/
def SBQ (X : Nat → RuT) (σ : Sig) (W : Nat → Nat) (P : (Nat → Nat) → Prop) (i : Nat) (σ' : Sig) : Prop := KR σ σ' ∧ BDs X (cT σ) (fun V => P V ∨ agr (cT σ) W V i) (σ' 32 12) (σ' 32 13)
def SBC (l : Launch) (G : Gt) (ρ : Nat → Nat) (tc : Nat) (cl : Nat → Nat) (X : Nat → RuT) (f : Nat) : Prop := ∀ (σ : Sig) (W : Nat → Nat) (P : (Nat → Nat) → Prop) (i g : Nat) (wv d : Int), i + f = slN (cT σ) → SBH X σ W P i g wv d → MX l yX3_standBed cX3_standBed 11 none (f + 1) (30 * f + 30) G (NN tc) ρ (shp tc cl) [.ref (ρ 32), .int (iZ (i : Int)), .int (iZ (g : Int)), .int (iZ wv), .int (iZ d)] σ (PV (fun σ' => SBQ X σ W P i σ'))
theorem lsW_mem {X : Nat → RuT} {σ : Sig} (hT : TI σ) {W : Nat → Nat} {s : Nat} {q : Nat × Nat} (h : q ∈ lsW X (cT σ) W s) : q.1 < 6 := by
  have h1 := seenG_mem h
  have h3 := hT.2.2.1
  have e : thN (cT σ) = (σ 1 3).toNat := rfl
  rw [e] at h1
  omega
theorem gonW_lt {X : Nat → RuT} {σ : Sig} (hT : TI σ) (W : Nat → Nat) : ∀ i, gon (cT σ) (lsW X (cT σ) W) i < 64
  | 0 => by show 0 < 64; decide
  | i + 1 => by
    have h := gonW_lt (X := X) hT W i
    show gaft _ _ < 64
    cases hf : frst (lsW X (cT σ) W (ordN (cT σ) i)) (gon (cT σ) (lsW X (cT σ) W) i) with
    | none => exact h
    | some q => exact or_lt _ h _ (lsW_mem hT (frst_mem hf).1)
theorem agr_s {T : Sig} {W V : Nat → Nat} {i w : Nat} (hi : i < slN T) : agr T (turnW W (ordN T i) w) V (i + 1) ↔ agr T W V i ∧ V (ordN T i) = w := by
  constructor
  · intro h
    refine ⟨fun j hj => ?_, ?_⟩
    · rw [h j (by omega)]
      exact turnW_agr hi j hj
    · rw [h i (by omega)]
      unfold turnW
      rw [if_pos rfl]
  · rintro ⟨h1, h2⟩ j hj
    by_cases hji : j = i
    · subst hji
      unfold turnW
      rw [if_pos rfl]
      exact h2
    · rw [h1 j (by omega), turnW_agr hi j (by omega)]
set_option maxHeartbeats 4000000 in
set_option maxRecDepth 100000 in
theorem c_X3_standBed {l : Launch} {G : Gt} {ρ : Nat → Nat} {tc : Nat} {cl : Nat → Nat} {σ : Sig} {X : Nat → RuT} {W : Nat → Nat} {P : (Nat → Nat) → Prop} {i g f : Nat} {wv d : Int} (hf : i + f = slN (cT σ)) (hH : SBH X σ W P i g wv d) (hR : ∀ f', f' + 1 = f → SBC l G ρ tc cl X f') : MX l yX3_standBed cX3_standBed 11 none (f + 1) (30 * f + 30) G (NN tc) ρ (shp tc cl) [.ref (ρ 32), .int (iZ (i : Int)), .int (iZ (g : Int)), .int (iZ wv), .int (iZ d)] σ (PV (fun σ' => SBQ X σ W P i σ')) := by
  refine MX_of [some (.ref (ρ 32)), some (.int (iZ (i : Int))), some (.int (iZ (g : Int))), some (.int (iZ wv)), some (.int (iZ d)), none, none, none, none, none, none] (by decide +kernel) rfl rfl (Nat.le_of_ble_eq_true rfl) ?_
  intro K hKl C T hRng
  subst hKl
  obtain ⟨hT, hA, hord, hW, hin, hg, hwv, hd, hBD⟩ := hH
  have h8 := hT.2.2.2.1
  have hTc := TI_cT hT
  have hsl : slN (cT σ) = (σ 1 8).toNat := rfl
  have hwi := wsP_in (X := X) hTc (W := W) (show i ≤ 5 by omega)
  have hdi := dgP_in (T := cT σ) (by omega) hW (show i ≤ 5 by omega)
  have hwr : 0 ≤ wv ∧ wv ≤ 5000 := by omega
  have hdr : 0 ≤ d ∧ d ≤ 150000 := by omega
  have hg64 : g < 64 := by rw [hg]; exact gonW_lt hT W i
  have J16 : ∀ (u : Unit), (i = slN (cT σ)) → Ex K G (NN tc) ρ (shp tc cl) 16 [some (.ref (ρ 32)), some (.int (iZ (i : Int))), some (.int (iZ (g : Int))), some (.int (iZ wv)), some (.int (iZ d)), none, none, none, none, none, none] [] σ := by
    intro u hinv
    have hin2 := hinv
    rw [hin2, wsP_n] at hwv
    rw [hin2, dgP_n] at hd
    have hfin : ∀ (s' : Sig), KR σ s' → ((σ 32 12 < wv ∨ (wv = σ 32 12 ∧ d < σ 32 13)) → s' 32 12 = wv ∧ s' 32 13 = d) → (¬ (σ 32 12 < wv ∨ (wv = σ 32 12 ∧ d < σ 32 13)) → s' 32 12 = σ 32 12 ∧ s' 32 13 = σ 32 13) → SBQ X σ W P i s' := by
      intro s' a1 a2 a3
      refine ⟨a1, ?_⟩
      rw [hin2]
      rw [hwv, hd] at a2 a3
      exact BDs_leaf hTc hBD hW a2 a3
    have J41 : ∀ (u : Unit), (σ 32 12 < wv ∨ (wv = σ 32 12 ∧ d < σ 32 13)) → Ex K G (NN tc) ρ (shp tc cl) 41 [some (.ref (ρ 32)), some (.int (iZ (i : Int))), some (.int (iZ (g : Int))), some (.int (iZ wv)), some (.int (iZ d)), none, none, none, none, none, none] [] σ := by
      intro u hinv
      have hbet := hinv
      refine x_aload_n 42 C dX3_standBed_41 rfl rfl rfl ?_
      refine x_iload_n 43 C dX3_standBed_42 rfl rfl rfl ?_
      refine x_puti (j := 12) tyX3 46 C rfl (lt79 (by decide)) rfl rfl (by decide) inT3 tyX3_ok nmX3 tb_2_120 rfl rfl rfl dX3_standBed_43 rfl (by omega) ?_
      refine x_aload_n 47 C dX3_standBed_46 rfl rfl rfl ?_
      refine x_iload 49 C dX3_standBed_47 rfl rfl ?_
      refine x_puti (j := 13) tyX3 52 C rfl (lt79 (by decide)) rfl rfl (by decide) inT3 tyX3_ok nmX3 tb_2_122 rfl rfl rfl dX3_standBed_49 rfl (by omega) ?_
      refine x_vret C T dX3_standBed_52 ?_
      first
        | (refine PV_i (hfin _ (KR_refl σ) (fun h => absurd h (by omega)) (fun _ => ⟨rfl, rfl⟩)); done)
        | (refine PV_i (hfin _ (KR_up (KR_up (KR_refl σ) (by omega)) (by omega)) (fun _ => ⟨?_, up_s⟩) (fun h => absurd hbet h))
           rw [up_i (by omega), up_s])
        | (refine PV_i ⟨hE, BDs_iff hB1 (fun V hV => ?_)⟩
           have h4 := hV s
           rw [show k = 4 by omega]
           constructor
           · rintro (h | ⟨h1, h2⟩)
             · exact Or.inl h
             · exact Or.inr h1
           · rintro (h | h)
             · exact Or.inl h
             · exact Or.inr ⟨h, h4⟩)
    refine x_iload_n 17 C dX3_standBed_16 rfl rfl rfl ?_
    refine x_aload_n 18 C dX3_standBed_17 rfl rfl rfl ?_
    refine x_geti (j := 12) 21 C rfl (lt79 (by decide)) rfl rfl (by decide) inT3 tb_2_120 rfl dX3_standBed_18 rfl (fun r18 => ?_)
    refine x_icmp_gt 41 24 C dX3_standBed_21 rfl rfl (by omega) (by omega) (fun h21 => ?_) (fun h21 => ?_)
    · skip
      exact J41 () (by omega)
    refine x_iload_n 25 C dX3_standBed_24 rfl rfl rfl ?_
    refine x_aload_n 26 C dX3_standBed_25 rfl rfl rfl ?_
    refine x_geti (j := 12) 29 C rfl (lt79 (by decide)) rfl rfl (by decide) inT3 tb_2_120 rfl dX3_standBed_26 rfl (fun r26 => ?_)
    refine x_icmp_ne 52 32 C dX3_standBed_29 rfl rfl (by omega) (by omega) (fun h29 => ?_) (fun h29 => ?_)
    · refine x_vret C T dX3_standBed_52 ?_
      first
        | (refine PV_i (hfin _ (KR_refl σ) (fun h => absurd h (by omega)) (fun _ => ⟨rfl, rfl⟩)); done)
        | (refine PV_i (hfin _ (KR_up (KR_up (KR_refl σ) (by omega)) (by omega)) (fun _ => ⟨?_, up_s⟩) (fun h => absurd hbet h))
           rw [up_i (by omega), up_s])
        | (refine PV_i ⟨hE, BDs_iff hB1 (fun V hV => ?_)⟩
           have h4 := hV s
           rw [show k = 4 by omega]
           constructor
           · rintro (h | ⟨h1, h2⟩)
             · exact Or.inl h
             · exact Or.inr h1
           · rintro (h | h)
             · exact Or.inl h
             · exact Or.inr ⟨h, h4⟩)
    refine x_iload 34 C dX3_standBed_32 rfl rfl ?_
    refine x_aload_n 35 C dX3_standBed_34 rfl rfl rfl ?_
    refine x_geti (j := 13) 38 C rfl (lt79 (by decide)) rfl rfl (by decide) inT3 tb_2_122 rfl dX3_standBed_35 rfl (fun r35 => ?_)
    refine x_icmp_ge 52 41 C dX3_standBed_38 rfl rfl (by omega) (by omega) (fun h38 => ?_) (fun h38 => ?_)
    · refine x_vret C T dX3_standBed_52 ?_
      first
        | (refine PV_i (hfin _ (KR_refl σ) (fun h => absurd h (by omega)) (fun _ => ⟨rfl, rfl⟩)); done)
        | (refine PV_i (hfin _ (KR_up (KR_up (KR_refl σ) (by omega)) (by omega)) (fun _ => ⟨?_, up_s⟩) (fun h => absurd hbet h))
           rw [up_i (by omega), up_s])
        | (refine PV_i ⟨hE, BDs_iff hB1 (fun V hV => ?_)⟩
           have h4 := hV s
           rw [show k = 4 by omega]
           constructor
           · rintro (h | ⟨h1, h2⟩)
             · exact Or.inl h
             · exact Or.inr h1
           · rintro (h | h)
             · exact Or.inl h
             · exact Or.inr ⟨h, h4⟩)
    exact J41 () (by omega)
  refine x_iload_n 1 C dX3_standBed_0 rfl rfl rfl ?_
  refine x_aload_n 2 C dX3_standBed_1 rfl rfl rfl ?_
  refine x_getr (j := 0) 5 C rfl (lt79 (by decide)) rfl rfl (by decide) inT3 tb_2_107 rfl dX3_standBed_2 rfl ?_
  refine x_geti (j := 8) 8 C rfl (lt79 (by decide)) rfl rfl (by decide) inT9 tb_1_59 rfl dX3_standBed_5 rfl (fun r5 => ?_)
  refine x_icmp_ge 16 11 C dX3_standBed_8 rfl rfl (by omega) (by omega) (fun h8 => ?_) (fun h8 => ?_)
  · exact J16 () (by omega)
  refine x_iload_n 12 C dX3_standBed_11 rfl rfl rfl ?_
  refine x_iconst 13 C dX3_standBed_12 rfl ?_
  refine x_icmp_lt 53 16 C dX3_standBed_13 rfl rfl (by omega) (by omega) (fun h13 => ?_) (fun h13 => ?_)
  · refine x_aload_n 54 C dX3_standBed_53 rfl rfl rfl ?_
    refine x_getr (j := 9) 57 C rfl (lt79 (by decide)) rfl rfl (by decide) inT3 tb_2_116 rfl dX3_standBed_54 rfl ?_
    refine x_iload_n 58 C dX3_standBed_57 rfl rfl rfl ?_
    refine x_iald 59 C rfl (lt79 (by decide)) dX3_standBed_58 rfl (by omega) (by omega) (fun r58 => ?_)
    have hilt : i < slN (cT σ) := by omega
    rw [show (i : Int).toNat = i from Int.toNat_natCast i, hord i (by omega)] at r58 ⊢
    obtain ⟨s, hs⟩ : ∃ s, ordN (cT σ) i = s := ⟨_, rfl⟩
    rw [hs] at r58 ⊢
    have hslt : s < slN (cT σ) := by rw [← hs]; exact ordN_lt hilt
    obtain ⟨f', rfl⟩ : ∃ f', f = f' + 1 := ⟨f - 1, by omega⟩
    refine x_istore_5 61 C dX3_standBed_59 rfl rfl ?_
    refine x_aload_n 62 C dX3_standBed_61 rfl rfl rfl ?_
    refine x_iload 64 C dX3_standBed_62 rfl rfl ?_
    refine x_callVe 67 C dX3_standBed_64 rfl (c_X3_digitOf (s := s) hT (by omega)) rfl (lt79 (by decide)) rfl tb_4_4 tb_4_6 tb_0_30 tb_1_18 tb_4_7 (na := 1) (by decide +kernel) rfl ⟨by omega, by omega⟩ rfl (Nat.le_of_ble_eq_true rfl) rfl (fun r64 => ?_)
    refine x_istore_6 69 C dX3_standBed_67 rfl rfl ?_
    refine x_iconst 70 C dX3_standBed_69 rfl ?_
    refine x_istore_7 72 C dX3_standBed_70 rfl rfl ?_
    have L72 : ∀ (mz : Nat) (k : Nat) (y : Int) (s1 : Sig) (x8 x9 x10 : Option Value), mz = 4 - k → (k ≤ 4 ∧ y = k ∧ KR σ s1 ∧ BDs X (cT σ) (fun V => P V ∨ (agr (cT σ) W V i ∧ V s < k)) (s1 32 12) (s1 32 13)) → Ex K G (NN tc) ρ (shp tc cl) 72 [some (.ref (ρ 32)), some (.int (iZ (i : Int))), some (.int (iZ (g : Int))), some (.int (iZ wv)), some (.int (iZ d)), some (.int (iZ (s : Int))), some (.int (iZ (pw10 (slN (cT σ)) s))), some (.int (iZ y)), x8, x9, x10] [] s1 := by
      intro mz
      induction mz using Nat.strongRecOn with
      | ind mz ih =>
        intro k y s1 x8 x9 x10 hmz hinv
        obtain ⟨hk, rfl, hE, hB1⟩ := hinv
        have hT1 := KR_TI hE hT
        have ec1 := KR_cT hE
        have hA1 := KR_HLA hE hA
        have e18 : s1 1 8 = σ 1 8 := hE 1 8 (by omega)
        have e7 : s1 7 = σ 7 := KR_row hE (by omega)
        have e9 : s1 9 = σ 9 := KR_row hE (by omega)
        have hpw := pw10_in (n := slN (cT σ)) (s := s) (by omega)
        refine x_iload 74 C dX3_standBed_72 rfl rfl ?_
        refine x_iconst 75 C dX3_standBed_74 rfl ?_
        refine x_icmp_ge 161 78 C dX3_standBed_75 rfl rfl (by omega) (by omega) (fun h75 => ?_) (fun h75 => ?_)
        · refine x_vret C T dX3_standBed_161 ?_
          first
            | (refine PV_i (hfin _ (KR_refl σ) (fun h => absurd h (by omega)) (fun _ => ⟨rfl, rfl⟩)); done)
            | (refine PV_i (hfin _ (KR_up (KR_up (KR_refl σ) (by omega)) (by omega)) (fun _ => ⟨?_, up_s⟩) (fun h => absurd hbet h))
               rw [up_i (by omega), up_s])
            | (refine PV_i ⟨hE, BDs_iff hB1 (fun V hV => ?_)⟩
               have h4 := hV s
               rw [show k = 4 by omega]
               constructor
               · rintro (h | ⟨h1, h2⟩)
                 · exact Or.inl h
                 · exact Or.inr h1
               · rintro (h | h)
                 · exact Or.inl h
                 · exact Or.inr ⟨h, h4⟩)
        refine x_aload_n 79 C dX3_standBed_78 rfl rfl rfl ?_
        refine x_iload 81 C dX3_standBed_79 rfl rfl ?_
        refine x_iconst 82 C dX3_standBed_81 rfl ?_
        refine x_imul 83 C dX3_standBed_82 rfl ?_
        refine x_iload 85 C dX3_standBed_83 rfl rfl ?_
        refine x_iadd 86 C dX3_standBed_85 rfl ?_
        rw [show (s : Int) * 4 + (k : Int) = ((4 * s + k : Nat) : Int) by omega]
        refine x_iload_n 87 C dX3_standBed_86 rfl rfl rfl ?_
        refine x_callVi 90 C dX3_standBed_87 rfl (c_X3_firstFree (li := 4 * s + k) (g := g) (by omega) hg64 (hA1 s (by omega) k (by omega)) (by rw [ec1, e7, e9]; exact seenG_le6 hT s k (by omega)) (fun q hq => by rw [ec1, e7, e9] at hq; exact lsW_mem (W := fun _ => k) hT hq)) rfl (lt79 (by decide)) rfl tb_3_173 tb_3_175 tb_0_24 tb_1_18 tb_3_176 (na := 2) (by decide +kernel) rfl ⟨by omega, by omega⟩ rfl (Nat.le_of_ble_eq_true rfl) rfl (fun z87 s87 hz87 hq87 hR87 => ?_)
        obtain ⟨he87, hz⟩ := hq87
        subst he87
        have hls : lsW X (cT σ) (turnW W s k) s = seenG X (cT σ) (σ 7 s) (k : Nat) (σ 9 s) s := by
          unfold lsW turnW
          rw [if_pos rfl]
          rfl
        have hLs := hA1 s (by omega) k (by omega)
        rw [ec1, e7, e9] at hz hLs
        rw [← hls] at hz hLs
        have hgg : gon (cT σ) (lsW X (cT σ) (turnW W s k)) i = g := by
          rw [hg]
          exact gon_agr (by rw [← hs]; exact turnW_agr hilt)
        have hgs : gon (cT σ) (lsW X (cT σ) (turnW W s k)) (i + 1) = gaft g (frst (lsW X (cT σ) (turnW W s k) s) g) := by
          show gaft (gon (cT σ) (lsW X (cT σ) (turnW W s k)) i) (frst (lsW X (cT σ) (turnW W s k) (ordN (cT σ) i)) (gon (cT σ) (lsW X (cT σ) (turnW W s k)) i)) = _
          rw [hgg, hs]
        have hwo : woP X (cT σ) (turnW W s k) i = worO X (cT σ) (σ 9 s) s (frst (lsW X (cT σ) (turnW W s k) s) g) := by
          unfold woP
          rw [hgg, hs]
          rfl
        have hff : (z87 = -1 ∧ frst (lsW X (cT σ) (turnW W s k) s) g = none) ∨ (z87 ≠ -1 ∧ ∃ q, frst (lsW X (cT σ) (turnW W s k) s) g = some q ∧ 0 ≤ z87 ∧ z87 < 120 ∧ s1 37 z87.toNat = (q.1 : Int) ∧ s1 38 z87.toNat = wrth X (cT σ) (σ 9 s) s q ∧ q.1 < 6) := by
          rcases hz with ⟨z1, z2⟩ | ⟨j, q, z1, z2, z3⟩
          · exact Or.inl ⟨z1, z2⟩
          · have hjl := (List.getElem?_eq_some_iff.mp z2).1
            have h6 := seenG_le6 (X := X) hT s k (by omega)
            rw [← hls] at h6
            obtain ⟨w1, w2⟩ := hLs.2 j q z2
            rw [show 6 * (4 * s + k) + j = z87.toNat by omega] at w1 w2
            exact Or.inr ⟨by omega, q, z3, by omega, by omega, w1, w2, lsW_mem hT (List.mem_of_getElem? z2)⟩
        clear hz
        refine x_istore_8 92 C dX3_standBed_90 rfl rfl ?_
        have J111 : ∀ (v : Int), (0 ≤ v ∧ v ≤ 32 ∧ iZ (g : Int) ||| iZ v = iZ ((gon (cT σ) (lsW X (cT σ) (turnW W s k)) (i + 1) : Nat) : Int)) → Ex K G (NN tc) ρ (shp tc cl) 111 [some (.ref (ρ 32)), some (.int (iZ (i : Int))), some (.int (iZ (g : Int))), some (.int (iZ wv)), some (.int (iZ d)), some (.int (iZ (s : Int))), some (.int (iZ (pw10 (slN (cT σ)) s))), some (.int (iZ (k : Int))), some (.int (iZ z87)), x9, x10] [.int (iZ v)] s1 := by
          intro v hinv
          obtain ⟨hv1, hv2, hor⟩ := hinv
          refine x_istore_9 113 C dX3_standBed_111 rfl rfl ?_
          have J130 : ∀ (v2 : Int), (v2 = woP X (cT σ) (turnW W s k) i ∧ (0 ≤ v2 ∧ v2 ≤ 1000)) → Ex K G (NN tc) ρ (shp tc cl) 130 [some (.ref (ρ 32)), some (.int (iZ (i : Int))), some (.int (iZ (g : Int))), some (.int (iZ wv)), some (.int (iZ d)), some (.int (iZ (s : Int))), some (.int (iZ (pw10 (slN (cT σ)) s))), some (.int (iZ (k : Int))), some (.int (iZ z87)), some (.int (iZ v)), x10] [.int (iZ v2)] s1 := by
            intro v2 hinv
            obtain ⟨hv3, hv4⟩ := hinv
            refine x_istore_10 132 C dX3_standBed_130 rfl rfl ?_
            refine x_aload_n 133 C dX3_standBed_132 rfl rfl rfl ?_
            refine x_iload_n 134 C dX3_standBed_133 rfl rfl rfl ?_
            refine x_iconst 135 C dX3_standBed_134 rfl ?_
            refine x_iadd 136 C dX3_standBed_135 rfl ?_
            refine x_iload_n 137 C dX3_standBed_136 rfl rfl rfl ?_
            refine x_iload 139 C dX3_standBed_137 rfl rfl ?_
            skip
            refine x_ior (((gon (cT σ) (lsW X (cT σ) (turnW W s k)) (i + 1) : Nat) : Int)) 140 C dX3_standBed_139 rfl hor ?_
            refine x_iload_n 141 C dX3_standBed_140 rfl rfl rfl ?_
            refine x_iload 143 C dX3_standBed_141 rfl rfl ?_
            refine x_iadd 144 C dX3_standBed_143 rfl ?_
            refine x_iload 146 C dX3_standBed_144 rfl rfl ?_
            refine x_iload 148 C dX3_standBed_146 rfl rfl ?_
            refine x_iload 150 C dX3_standBed_148 rfl rfl ?_
            refine x_imul 151 C dX3_standBed_150 rfl ?_
            refine x_iadd 152 C dX3_standBed_151 rfl ?_
            have hSB : SBH X s1 (turnW W s k) (fun V => P V ∨ (agr (cT σ) W V i ∧ V s < k)) (i + 1) (gon (cT σ) (lsW X (cT σ) (turnW W s k)) (i + 1)) (wv + v2) (d + (k : Int) * pw10 (slN (cT σ)) s) := by
              refine ⟨hT1, hA1, fun j hj => ?_, turnW_ok hW (by omega), by rw [ec1]; omega, by rw [ec1], ?_, ?_, by rw [ec1]; exact hB1⟩
              · rw [ec1, KR_row hE (show (39 : Nat) ≠ 32 by omega)]; exact hord j (by omega)
              · rw [ec1, hv3, hwv, ← wsP_agr (X := X) (show agr (cT σ) W (turnW W s k) i by rw [← hs]; exact turnW_agr hilt)]
                rfl
              · rw [ec1, hd, ← dgP_agr (show agr (cT σ) W (turnW W s k) i by rw [← hs]; exact turnW_agr hilt)]
                show _ = dgP (cT σ) (turnW W s k) i + ((turnW W s k) (ordN (cT σ) i) : Int) * pw10 (slN (cT σ)) (ordN (cT σ) i)
                rw [hs]
                unfold turnW
                rw [if_pos rfl]
            refine x_callVv 155 C dX3_standBed_152 rfl (hR f' rfl s1 (turnW W s k) (fun V => P V ∨ (agr (cT σ) W V i ∧ V s < k)) (i + 1) _ _ _ (by rw [ec1]; omega) hSB) rfl (lt79 (by decide)) rfl tb_4_0 tb_4_2 tb_0_29 tb_1_18 tb_4_3 (na := 4) (by decide +kernel) rfl ⟨by omega, by omega⟩ rfl (Nat.le_of_ble_eq_true rfl) rfl (fun s152 hq152 hR152 => ?_)
            obtain ⟨q1, q2⟩ := hq152
            rw [ec1] at q2
            refine x_iinc_7 158 C dX3_standBed_155 rfl rfl ?_
            refine x_goto 72 C dX3_standBed_158 rfl ?_
            clear hff hor hv3
            refine ih _ (by omega) (k + 1) _ _ _ _ _ rfl ⟨by omega, by omega, KR_trans hE q1, BDs_iff q2 (fun V _ => ?_)⟩
            rw [← hs, agr_s hilt]
            constructor
            · rintro ((h | ⟨h1, h2⟩) | ⟨h1, h2⟩)
              · exact Or.inl h
              · exact Or.inr ⟨h1, by omega⟩
              · exact Or.inr ⟨h1, by omega⟩
            · rintro (h | ⟨h1, h2⟩)
              · exact Or.inl (Or.inl h)
              · by_cases hVk : V (ordN (cT σ) i) = k
                · exact Or.inr ⟨h1, hVk⟩
                · exact Or.inl (Or.inr ⟨h1, by omega⟩)
          refine x_iload 115 C dX3_standBed_113 rfl rfl ?_
          refine x_iconst 116 C dX3_standBed_115 rfl ?_
          refine x_icmp_ne 123 119 C dX3_standBed_116 rfl rfl (by omega) (by omega) (fun h116 => ?_) (fun h116 => ?_)
          · refine x_aload_n 124 C dX3_standBed_123 rfl rfl rfl ?_
            refine x_getr (j := 8) 127 C rfl (lt79 (by decide)) rfl rfl (by decide) inT3 tb_2_115 rfl dX3_standBed_124 rfl ?_
            refine x_iload 129 C dX3_standBed_127 rfl rfl ?_
            refine x_iald 130 C rfl (lt79 (by decide)) dX3_standBed_129 rfl (by omega) (by omega) (fun r129 => ?_)
            exact J130 _ ⟨by rcases hff with ⟨a, b⟩ | ⟨a, q, b, c, dd, e, f2, g2⟩ <;> first | (rw [hwo, b]; rfl) | (rw [hwo, b, f2]; rfl) | omega, by rcases hff with ⟨a, b⟩ | ⟨a, q, b, c, dd, e, f2, g2⟩ <;> first | omega | (rw [f2]; exact wrth_in hTc (by have := seenG_mem (frst_mem b).1; omega))⟩
          refine x_iconst 120 C dX3_standBed_119 rfl ?_
          refine x_goto 130 C dX3_standBed_120 rfl ?_
          exact J130 _ ⟨by rcases hff with ⟨a, b⟩ | ⟨a, q, b, c, dd, e, f2, g2⟩ <;> first | (rw [hwo, b]; rfl) | (rw [hwo, b, f2]; rfl) | omega, by rcases hff with ⟨a, b⟩ | ⟨a, q, b, c, dd, e, f2, g2⟩ <;> first | omega | (rw [f2]; exact wrth_in hTc (by have := seenG_mem (frst_mem b).1; omega))⟩
        refine x_iload 94 C dX3_standBed_92 rfl rfl ?_
        refine x_iconst 95 C dX3_standBed_94 rfl ?_
        refine x_icmp_ne 102 98 C dX3_standBed_95 rfl rfl (by omega) (by omega) (fun h95 => ?_) (fun h95 => ?_)
        · refine x_iconst 103 C dX3_standBed_102 rfl ?_
          refine x_aload_n 104 C dX3_standBed_103 rfl rfl rfl ?_
          refine x_getr (j := 7) 107 C rfl (lt79 (by decide)) rfl rfl (by decide) inT3 tb_2_114 rfl dX3_standBed_104 rfl ?_
          refine x_iload 109 C dX3_standBed_107 rfl rfl ?_
          refine x_iald 110 C rfl (lt79 (by decide)) dX3_standBed_109 rfl (by omega) (by omega) (fun r109 => ?_)
          obtain ⟨q, hq1, hq2, hq3, hq4, hq5, hq6⟩ : ∃ q, frst (lsW X (cT σ) (turnW W s k) s) g = some q ∧ 0 ≤ z87 ∧ z87 < 120 ∧ s1 37 z87.toNat = (q.1 : Int) ∧ s1 38 z87.toNat = wrth X (cT σ) (σ 9 s) s q ∧ q.1 < 6 := by
            rcases hff with ⟨a, b⟩ | ⟨a, h⟩
            · omega
            · exact h
          rw [hq4] at *
          refine x_ishl (((2 ^ q.1 : Nat) : Int)) 111 C dX3_standBed_110 rfl (sh1 q.1 hq6) ?_
          have hgo : 0 ≤ ((2 ^ q.1 : Nat) : Int) ∧ ((2 ^ q.1 : Nat) : Int) ≤ 32 ∧ (iZ (g : Int) ||| iZ ((2 ^ q.1 : Nat) : Int)) = iZ ((gon (cT σ) (lsW X (cT σ) (turnW W s k)) (i + 1) : Nat) : Int) := by
            have hpp := pw_pos q.1 hq6
            refine ⟨by omega, by omega, ?_⟩
            rw [or1 g hg64 q.1 hq6, hgs, hq1]
            rfl
          exact J111 _ hgo
        refine x_iconst 99 C dX3_standBed_98 rfl ?_
        have hgo : 0 ≤ (0 : Int) ∧ (0 : Int) ≤ 32 ∧ (iZ (g : Int) ||| iZ 0) = iZ ((gon (cT σ) (lsW X (cT σ) (turnW W s k)) (i + 1) : Nat) : Int) := by
          refine ⟨by omega, by omega, ?_⟩
          rw [or0 g hg64, hgs]
          rcases hff with ⟨a, b⟩ | ⟨a, h⟩
          · rw [b]; rfl
          · omega
        refine x_goto 111 C dX3_standBed_99 rfl ?_
        exact J111 _ hgo
    exact L72 _ 0 _ _ _ _ _ rfl ⟨by omega, rfl, KR_refl σ, BDs_iff hBD (fun V _ => ⟨Or.inl, fun h => h.elim id (fun h => absurd h.2 (by omega))⟩)⟩
  exact J16 () (by omega)
