/-- the lists of all ways of all beds -/
def HLA (X : Nat → RuT) (σ s1 : Sig) : Prop := ∀ s : Nat, (s : Int) < σ 1 8 → ∀ w : Nat, w < 4 → LKa s1 (4 * s + w) (seenG X (cT σ) (σ 7 s) (w : Nat) (σ 9 s) s) (wrth X (cT σ) (σ 9 s) s)
theorem seenG_le6 {X : Nat → RuT} {σ : Sig} (hT : TI σ) (s w : Nat) (hw : w < 4) : (seenG X (cT σ) (σ 7 s) (w : Nat) (σ 9 s) s).length ≤ 6 := by
  have := hT.2.2.2.2 s
  exact seenG_le (TI_cT hT) (by omega) (by omega)
/-- the world but for the way of s and what looking changes -/
def K8 (σ : Sig) (s : Nat) (s1 : Sig) : Prop := (∀ a, a ≠ 8 → ¬ (33 ≤ a ∧ a ≤ 38) → ¬ (81 ≤ a ∧ a < 97 ∧ a % 3 = 0) → s1 a = σ a) ∧ ∀ i, i ≠ s → s1 8 i = σ 8 i
theorem K8_cT {σ s1 : Sig} {s : Nat} (h : K8 σ s s1) : cT s1 = tS (cT σ) s (σ 9 s) (s1 8 s) := by
  rw [← cT_S]
  refine cT_keep1 (fun a h1 h2 => ?_)
  by_cases a8 : a = 8
  · subst a8
    funext b
    by_cases hb : b = s
    · subst hb; rw [tS_8s]
    · rw [tS_8 hb]; exact h.2 b hb
  · by_cases a9 : a = 9
    · subst a9
      rw [h.1 9 (by omega) (by omega) (by omega)]
      funext b
      by_cases hb : b = s
      · subst hb; rw [tS_9s]
      · rw [tS_9 hb]
    · rw [tS_row a8 a9]; exact h.1 a a8 (by omega) (by omega)
theorem K8_CW {X : Nat → RuT} {tc : Nat} {cl : Nat → Nat} {σ s1 : Sig} {s : Nat} (h : K8 σ s s1) (hW : CW X tc cl σ) (hw : 0 ≤ s1 8 s ∧ s1 8 s ≤ 3) : CW X tc cl s1 := by
  have hm := hW.1.2.2.2.2 s
  refine ⟨TI_keep1 (fun a h1 h2 => ?_) (TI_S (s := s) (m := σ 9 s) (w := s1 8 s) hW.1 (by omega) hw), ⟨hW.2.1.1, fun t ht => ?_⟩, by rw [h.1 1 (by omega) (by omega) (by omega)]; exact hW.2.2⟩
  · by_cases a8 : a = 8
    · subst a8
      funext b
      by_cases hb : b = s
      · subst hb; rw [tS_8s]
      · rw [tS_8 hb]; exact h.2 b hb
    · by_cases a9 : a = 9
      · subst a9
        rw [h.1 9 (by omega) (by omega) (by omega)]
        funext b
        by_cases hb : b = s
        · subst hb; rw [tS_9s]
        · rw [tS_9 hb]
      · rw [tS_row a8 a9]; exact h.1 a a8 (by omega) (by omega)
  · have := hW.2.1.1
    rw [h.1 (79 + 3 * t) (by omega) (by omega) (by omega), h.1 (79 + 3 * t + 1) (by omega) (by omega) (by omega)]
    exact hW.2.1.2 t ht
theorem K8_back {σ s1 : Sig} {s : Nat} (h : K8 σ s s1) : Kp 33 38 σ (up s1 8 s (σ 8 s)) := fun a h1 h2 => by
  by_cases a8 : a = 8
  · subst a8
    funext b
    by_cases hb : b = s
    · subst hb; rw [up_s]
    · rw [up_i hb]; exact h.2 b hb
  · rw [up_row a8]; exact h.1 a a8 h1 h2
theorem K8_up {σ s1 : Sig} {s : Nat} {v : Int} (h : K8 σ s s1) : K8 σ s (up s1 8 s v) := ⟨fun a h1 h2 h3 => by rw [up_row h1]; exact h.1 a h1 h2 h3, fun i hi => by rw [up_i hi]; exact h.2 i hi⟩
theorem K8_Kp {σ s1 s2 : Sig} {s : Nat} (h : K8 σ s s1) (hk : Kp 33 38 s1 s2) : K8 σ s s2 := ⟨fun a h1 h2 h3 => (hk a h2 h3).trans (h.1 a h1 h2 h3), fun i hi => (congrFun (hk 8 (by omega) (by omega)) i).trans (h.2 i hi)⟩
theorem Kp_K8 {σ s1 : Sig} (h : Kp 33 38 σ s1) (s : Nat) : K8 σ s s1 := ⟨fun a _ h2 h3 => h a h2 h3, fun i _ => congrFun (h 8 (by omega) (by omega)) i⟩
/-- as far as all ways have been looked -/
def HLP (X : Nat → RuT) (σ : Sig) (s k : Nat) (s1 : Sig) : Prop := ∀ q : Nat, (q : Int) < σ 1 8 → ∀ w : Nat, w < 4 → (q < s ∨ (q = s ∧ w < k)) → LKa s1 (4 * q + w) (seenG X (cT σ) (σ 7 q) (w : Nat) (σ 9 q) q) (wrth X (cT σ) (σ 9 q) q)
set_option maxHeartbeats 4000000 in
set_option maxRecDepth 100000 in
theorem c_X3_lookAllWays {l : Launch} {G : Gt} {ρ : Nat → Nat} {tc : Nat} {cl : Nat → Nat} {σ : Sig} {X : Nat → RuT} (hW : CW X tc cl σ) : MX l yX3_lookAllWays cX3_lookAllWays 4 none 5 129 G (NN tc) ρ (shp tc cl) [.ref (ρ 32)] σ (PV (fun σ' => Kp 33 38 σ σ' ∧ HLA X σ σ')) := by
  refine MX_of [some (.ref (ρ 32)), none, none, none] (by decide +kernel) rfl rfl (Nat.le_of_ble_eq_true rfl) ?_
  intro K hKl C T hRng
  subst hKl
  have hT := hW.1
  have h8 := hT.2.2.2.1
  refine x_iconst 1 C dX3_lookAllWays_0 rfl ?_
  refine x_istore_n1 2 C dX3_lookAllWays_1 rfl rfl ?_
  have L2 : ∀ (mz : Nat) (s : Nat) (y : Int) (s1 : Sig) (x2 x3 : Option Value), mz = 6 - s → ((s : Int) ≤ σ 1 8 ∧ y = s ∧ Kp 33 38 σ s1 ∧ HLP X σ s 0 s1) → Ex K G (NN tc) ρ (shp tc cl) 2 [some (.ref (ρ 32)), some (.int (iZ y)), x2, x3] [] s1 := by
    intro mz
    induction mz using Nat.strongRecOn with
    | ind mz ih =>
      intro s y s1 x2 x3 hmz hinv
      have ihs := ih
      obtain ⟨hs, rfl, hK1, hP1⟩ := hinv
      have hss : (s : Int).toNat = s := Int.toNat_natCast s
      have hqs := hT.2.2.2.2 s
      have e18 : s1 1 8 = σ 1 8 := congrFun (hK1 1 (by omega) (by omega)) 8
      have e8 : s1 8 (s : Int).toNat = σ 8 s := by rw [hss, hK1 8 (by omega) (by omega)]
      refine x_iload_n 3 C dX3_lookAllWays_2 rfl rfl rfl ?_
      refine x_aload_n 4 C dX3_lookAllWays_3 rfl rfl rfl ?_
      refine x_getr (j := 0) 7 C rfl (lt79 (by decide)) rfl rfl (by decide) inT3 tb_2_107 rfl dX3_lookAllWays_4 rfl ?_
      refine x_geti (j := 8) 10 C rfl (lt79 (by decide)) rfl rfl (by decide) inT9 tb_1_59 rfl dX3_lookAllWays_7 rfl (fun r7 => ?_)
      refine x_icmp_ge 67 13 C dX3_lookAllWays_10 rfl rfl (by omega) (by omega) (fun h10 => ?_) (fun h10 => ?_)
      · refine x_vret C T dX3_lookAllWays_67 ?_
        exact PV_i ⟨hK1, fun q hq w hw => hP1 q hq w hw (by omega)⟩
      refine x_aload_n 14 C dX3_lookAllWays_13 rfl rfl rfl ?_
      refine x_getr (j := 0) 17 C rfl (lt79 (by decide)) rfl rfl (by decide) inT3 tb_2_107 rfl dX3_lookAllWays_14 rfl ?_
      refine x_getr (j := 10) 20 C rfl (lt79 (by decide)) rfl rfl (by decide) inT9 tb_1_66 rfl dX3_lookAllWays_17 rfl ?_
      refine x_iload_n 21 C dX3_lookAllWays_20 rfl rfl rfl ?_
      refine x_iald 22 C rfl (lt79 (by decide)) dX3_lookAllWays_21 rfl (by omega) (by omega) (fun r21 => ?_)
      rw [e8] at r21 ⊢
      refine x_istore_n2 23 C dX3_lookAllWays_22 rfl rfl ?_
      refine x_iconst 24 C dX3_lookAllWays_23 rfl ?_
      refine x_istore_n3 25 C dX3_lookAllWays_24 rfl rfl ?_
      have L25 : ∀ (mz : Nat) (k : Nat) (y : Int) (s2 : Sig), mz = 4 - k → (k ≤ 4 ∧ y = k ∧ K8 σ s s2 ∧ HLP X σ s k s2) → Ex K G (NN tc) ρ (shp tc cl) 25 [some (.ref (ρ 32)), some (.int (iZ (s : Int))), some (.int (iZ (σ 8 s))), some (.int (iZ y))] [] s2 := by
        intro mz
        induction mz using Nat.strongRecOn with
        | ind mz ih =>
          intro k y s2 hmz hinv
          obtain ⟨hk, rfl, hE, hP2⟩ := hinv
          refine x_iload_n 26 C dX3_lookAllWays_25 rfl rfl rfl ?_
          refine x_iconst 27 C dX3_lookAllWays_26 rfl ?_
          refine x_icmp_ge 51 30 C dX3_lookAllWays_27 rfl rfl (by omega) (by omega) (fun h27 => ?_) (fun h27 => ?_)
          · refine x_aload_n 52 C dX3_lookAllWays_51 rfl rfl rfl ?_
            refine x_getr (j := 0) 55 C rfl (lt79 (by decide)) rfl rfl (by decide) inT3 tb_2_107 rfl dX3_lookAllWays_52 rfl ?_
            refine x_getr (j := 10) 58 C rfl (lt79 (by decide)) rfl rfl (by decide) inT9 tb_1_66 rfl dX3_lookAllWays_55 rfl ?_
            refine x_iload_n 59 C dX3_lookAllWays_58 rfl rfl rfl ?_
            refine x_iload_n 60 C dX3_lookAllWays_59 rfl rfl rfl ?_
            refine x_iast 61 C rfl (lt79 (by decide)) dX3_lookAllWays_60 rfl (by omega) (by omega) (by omega) ?_
            refine x_iinc_1 64 C dX3_lookAllWays_61 rfl rfl ?_
            refine x_goto 2 C dX3_lookAllWays_64 rfl ?_
            rw [hss]
            refine ihs _ (by omega) (s + 1) _ _ _ _ rfl ⟨by omega, by omega, K8_back hE, fun q hq w hw h => ?_⟩
            exact LKa_keep (hP2 q hq w hw (by omega)) (up_row (by omega)) (up_row (by omega)) (up_row (by omega))
          refine x_aload_n 31 C dX3_lookAllWays_30 rfl rfl rfl ?_
          refine x_getr (j := 0) 34 C rfl (lt79 (by decide)) rfl rfl (by decide) inT3 tb_2_107 rfl dX3_lookAllWays_31 rfl ?_
          refine x_getr (j := 10) 37 C rfl (lt79 (by decide)) rfl rfl (by decide) inT9 tb_1_66 rfl dX3_lookAllWays_34 rfl ?_
          refine x_iload_n 38 C dX3_lookAllWays_37 rfl rfl rfl ?_
          refine x_iload_n 39 C dX3_lookAllWays_38 rfl rfl rfl ?_
          refine x_iast 40 C rfl (lt79 (by decide)) dX3_lookAllWays_39 rfl (by omega) (by omega) (by omega) ?_
          rw [hss]
          obtain ⟨s3, hs3⟩ : ∃ s3, up s2 8 s (k : Int) = s3 := ⟨_, rfl⟩
          rw [hs3]
          have hE3 : K8 σ s s3 := by rw [← hs3]; exact K8_up hE
          have u8 : s3 8 s = (k : Int) := by rw [← hs3, up_s]
          have hW3 := K8_CW hE3 hW (by omega)
          have e183 : s3 1 8 = σ 1 8 := congrFun (hE3.1 1 (by omega) (by omega) (by omega)) 8
          refine x_aload_n 41 C dX3_lookAllWays_40 rfl rfl rfl ?_
          refine x_iload_n 42 C dX3_lookAllWays_41 rfl rfl rfl ?_
          refine x_callVv 45 C dX3_lookAllWays_42 rfl (c_X3_look (X := X) (s := s) hW3 (by omega)) rfl (lt79 (by decide)) rfl tb_3_160 tb_3_59 tb_3_60 tb_1_18 tb_3_61 (na := 1) (by decide +kernel) rfl ⟨by decide, by decide⟩ rfl (Nat.le_of_ble_eq_true rfl) rfl (fun s42 hq42 hR42 => ?_)
          obtain ⟨k1, k2, k3⟩ := hq42
          rw [u8, show 4 * s + ((k : Nat) : Int).toNat = 4 * s + k by omega] at k2 k3
          have k3' : LKa s42 (4 * s + k) (seenG X (cT σ) (σ 7 s) (k : Nat) (σ 9 s) s) (wrth X (cT σ) (σ 9 s) s) := by
            rw [K8_cT hE3, u8, hE3.1 9 (by omega) (by omega) (by omega), wrth_cong tS_low] at k3
            unfold seenT at k3
            rw [seenG_cong tS_low, tS_row (by omega) (by omega), tS_8s, tS_9s] at k3
            exact k3
          refine x_iinc_3 48 C dX3_lookAllWays_45 rfl rfl ?_
          refine x_goto 25 C dX3_lookAllWays_48 rfl ?_
          refine ih _ (by omega) (k + 1) _ _ rfl ⟨by omega, by omega, K8_Kp hE3 k1, fun q hq w hw h => ?_⟩
          by_cases hqw : q = s ∧ w = k
          · obtain ⟨rfl, rfl⟩ := hqw
            exact k3'
          · refine LKa_other (LKa_keep (hP2 q hq w hw (by omega)) ?_ ?_ ?_) k2 (by omega) (seenG_le6 hT q w hw) <;> rw [← hs3, up_row (by omega)]
      exact L25 _ 0 _ _ rfl ⟨by omega, rfl, Kp_K8 hK1 s, hP1⟩
  exact L2 _ 0 _ _ _ _ rfl ⟨by omega, rfl, Kp_refl σ, fun q hq w hw h => absurd h (by omega)⟩

/-- only what is best of all beds changes -/
def KR (σ σ' : Sig) : Prop := ∀ a b, ¬ (a = 32 ∧ (b = 12 ∨ b = 13)) → σ' a b = σ a b
theorem KR_refl (σ : Sig) : KR σ σ := fun _ _ _ => rfl
theorem KR_trans {σ s s' : Sig} (h : KR σ s) (h2 : KR s s') : KR σ s' := fun a b hn => (h2 a b hn).trans (h a b hn)
theorem KR_up {σ s : Sig} {i : Nat} {v : Int} (h : KR σ s) (hi : i = 12 ∨ i = 13) : KR σ (up s 32 i v) := fun a b hn => by
  by_cases ha : a = 32
  · subst ha
    rw [up_i (by omega)]; exact h 32 b hn
  · rw [up_r ha]; exact h a b hn
theorem KR_row {σ s : Sig} {a : Nat} (h : KR σ s) (ha : a ≠ 32) : s a = σ a := funext fun b => h a b (by omega)
theorem KR_TI {σ s : Sig} (h : KR σ s) (hT : TI σ) : TI s := TI_keep (fun a ha => KR_row h (by omega)) hT
theorem KR_cT {σ s : Sig} (h : KR σ s) : cT s = cT σ := cT_keep (fun a ha => KR_row h (by omega))
theorem KR_HLA {X : Nat → RuT} {σ s : Sig} (h : KR σ s) (hA : HLA X σ σ) : HLA X s s := by
  intro q hq w hw
  rw [KR_cT h, KR_row h (show (7 : Nat) ≠ 32 by omega), KR_row h (show (9 : Nat) ≠ 32 by omega)]
  exact LKa_keep (hA q (by rw [← KR_row h (show (1 : Nat) ≠ 32 by omega)]; exact hq) w hw) (KR_row h (by omega)) (KR_row h (by omega)) (KR_row h (by omega))
theorem lsW_mem {X : Nat → RuT} {σ : Sig} (hT : TI σ) {W : Nat → Nat} {s : Nat} {q : Nat × Nat} (h : q ∈ lsW X (cT σ) W s) : q.1 < 6 := by
  have h1 := seenG_mem h
  have h3 := hT.2.2.1
  have e : thN (cT σ) = (σ 1 3).toNat := rfl
  rw [e] at h1
  omega
theorem gonW_lt {X : Nat → RuT} {σ : Sig} (hT : TI σ) (W : Nat → Nat) : ∀ i, gon (cT σ) (lsW X (cT σ) W) i < 64
  | 0 => by show 0 < 64; decide
  | i + 1 => by
    have h := gonW_lt (X := X) hT W i
    show gaft _ _ < 64
    cases hf : frst (lsW X (cT σ) W (ordN (cT σ) i)) (gon (cT σ) (lsW X (cT σ) W) i) with
    | none => exact h
    | some q => exact or_lt _ h _ (lsW_mem hT (frst_mem hf).1)
/-- the order in which they wake, as it has been laid down -/
def ORD (σ : Sig) : Prop := ∀ j : Nat, (j : Int) < σ 1 8 → σ 39 j = (ordN (cT σ) j : Int)
theorem shr4a : ∀ a : Nat, a < 32 → ∀ b : Nat, b < 32 → ∀ j : Nat, j < 5 → iZ ((32 * a + b : Nat) : Int) >>> (iZ ((2 * j : Nat) : Int) &&& 31) = iZ (((32 * a + b) / 4 ^ j : Nat) : Int) := by decide +kernel
theorem shr4 (k : Nat) (hk : k < 1024) (j : Nat) (hj : j < 5) : iZ (k : Int) >>> (iZ ((2 * j : Nat) : Int) &&& 31) = iZ ((k / 4 ^ j : Nat) : Int) := by
  have h := shr4a (k / 32) (by omega) (k % 32) (by omega) j hj
  rw [show 32 * (k / 32) + k % 32 = k by omega] at h
  exact h
theorem and3a : ∀ a : Nat, a < 32 → ∀ b : Nat, b < 32 → (iZ ((32 * a + b : Nat) : Int) &&& iZ 3) = iZ (((32 * a + b) % 4 : Nat) : Int) := by decide +kernel
theorem and3 (k : Nat) (hk : k < 1024) : (iZ (k : Int) &&& iZ 3) = iZ ((k % 4 : Nat) : Int) := by
  have h := and3a (k / 32) (by omega) (k % 32) (by omega)
  rw [show 32 * (k / 32) + k % 32 = k by omega] at h
  exact h
theorem shl4 : ∀ n : Nat, n < 6 → iZ 1 <<< (iZ ((2 * n : Nat) : Int) &&& 31) = iZ ((4 ^ n : Nat) : Int) := by decide +kernel
theorem p4_le (n : Nat) (hn : n ≤ 5) : 4 ^ n ≤ 1024 := Nat.le_trans (Nat.pow_le_pow_right (by decide) hn) (by decide)
theorem p10_le (n : Nat) (hn : n ≤ 5) : 10 ^ n ≤ 100000 := Nat.le_trans (Nat.pow_le_pow_right (by decide) hn) (by decide)
set_option maxHeartbeats 4000000 in
set_option maxRecDepth 100000 in
theorem c_X3_wayByCode {l : Launch} {G : Gt} {ρ : Nat → Nat} {tc : Nat} {cl : Nat → Nat} {σ : Sig} {k s : Nat} (hT : TI σ) (hk : k < 4 ^ slN (cT σ)) (hs : (s : Int) < σ 1 8) : MX l yX3_wayByCode cX3_wayByCode 3 (some .int) 0 0 G (NN tc) ρ (shp tc cl) [.ref (ρ 32), .int (iZ (k : Int)), .int (iZ (s : Int))] σ (PE σ ((wK (slN (cT σ)) k s : Nat) : Int)) := by
  refine MX_of [some (.ref (ρ 32)), some (.int (iZ (k : Int))), some (.int (iZ (s : Int)))] (by decide +kernel) rfl rfl (Nat.le_of_ble_eq_true rfl) ?_
  intro K hKl C T hRng
  subst hKl
  have h8 := hT.2.2.2.1
  have hTc := TI_cT hT
  obtain ⟨n, hn⟩ : ∃ n : Nat, slN (cT σ) = n := ⟨_, rfl⟩
  have hn2 : (n : Int) = σ 1 8 := by rw [← hn, slN_T]; omega
  rw [hn] at hk
  have hp4 := p4_le n (by omega)
  have hp10 := p10_le n (by omega)
  refine x_iload_n 1 C dX3_wayByCode_0 rfl rfl rfl ?_
  refine x_iconst 2 C dX3_wayByCode_1 rfl ?_
  refine x_aload_n 3 C dX3_wayByCode_2 rfl rfl rfl ?_
  refine x_getr (j := 0) 6 C rfl (lt79 (by decide)) rfl rfl (by decide) inT3 tb_2_107 rfl dX3_wayByCode_3 rfl ?_
  refine x_geti (j := 8) 9 C rfl (lt79 (by decide)) rfl rfl (by decide) inT9 tb_1_59 rfl dX3_wayByCode_6 rfl (fun r6 => ?_)
  refine x_iconst 10 C dX3_wayByCode_9 rfl ?_
  refine x_isub 11 C dX3_wayByCode_10 rfl ?_
  refine x_iload_n 12 C dX3_wayByCode_11 rfl rfl rfl ?_
  refine x_isub 13 C dX3_wayByCode_12 rfl ?_
  refine x_imul 14 C dX3_wayByCode_13 rfl ?_
  rw [show 2 * (σ 1 8 - 1 - (s : Int)) = ((2 * (n - 1 - s) : Nat) : Int) by omega]
  refine x_ishr (((k / 4 ^ (n - 1 - s) : Nat) : Int)) 15 C dX3_wayByCode_14 rfl (shr4 k (by omega) _ (by omega)) ?_
  refine x_iconst 16 C dX3_wayByCode_15 rfl ?_
  have hdl : k / 4 ^ (n - 1 - s) ≤ k := Nat.div_le_self _ _
  refine x_iand (((k / 4 ^ (n - 1 - s) % 4 : Nat) : Int)) 17 C dX3_wayByCode_16 rfl (and3 _ (by omega)) ?_
  refine x_iret C T dX3_wayByCode_17 ?_
  exact PE_i (by rw [hn]; rfl) (by omega)

set_option maxHeartbeats 4000000 in
set_option maxRecDepth 100000 in
theorem c_X3_digitsOf {l : Launch} {G : Gt} {ρ : Nat → Nat} {tc : Nat} {cl : Nat → Nat} {σ : Sig} {k : Nat} (hT : TI σ) (hk : k < 4 ^ slN (cT σ)) : MX l yX3_digitsOf cX3_digitsOf 4 (some .int) 1 22 G (NN tc) ρ (shp tc cl) [.ref (ρ 32), .int (iZ (k : Int))] σ (PE σ (dK (slN (cT σ)) k)) := by
  refine MX_of [some (.ref (ρ 32)), some (.int (iZ (k : Int))), none, none] (by decide +kernel) rfl rfl (Nat.le_of_ble_eq_true rfl) ?_
  intro K hKl C T hRng
  subst hKl
  have h8 := hT.2.2.2.1
  have hTc := TI_cT hT
  obtain ⟨n, hn⟩ : ∃ n : Nat, slN (cT σ) = n := ⟨_, rfl⟩
  have hn2 : (n : Int) = σ 1 8 := by rw [← hn, slN_T]; omega
  rw [hn] at hk
  have hp4 := p4_le n (by omega)
  have hp10 := p10_le n (by omega)
  refine x_iconst 1 C dX3_digitsOf_0 rfl ?_
  refine x_istore_n2 2 C dX3_digitsOf_1 rfl rfl ?_
  refine x_iconst 3 C dX3_digitsOf_2 rfl ?_
  refine x_istore_n3 4 C dX3_digitsOf_3 rfl rfl ?_
  have L4 : ∀ (mz : Nat) (s : Nat) (y d : Int), mz = 6 - s → ((s : Int) ≤ σ 1 8 ∧ y = s ∧ d = dgW (wK n k) s) → Ex K G (NN tc) ρ (shp tc cl) 4 [some (.ref (ρ 32)), some (.int (iZ (k : Int))), some (.int (iZ d)), some (.int (iZ y))] [] σ := by
    intro mz
    induction mz using Nat.strongRecOn with
    | ind mz ih =>
      intro s y d hmz hinv
      obtain ⟨hs, rfl, rfl⟩ := hinv
      refine x_iload_n 5 C dX3_digitsOf_4 rfl rfl rfl ?_
      refine x_aload_n 6 C dX3_digitsOf_5 rfl rfl rfl ?_
      refine x_getr (j := 0) 9 C rfl (lt79 (by decide)) rfl rfl (by decide) inT3 tb_2_107 rfl dX3_digitsOf_6 rfl ?_
      refine x_geti (j := 8) 12 C rfl (lt79 (by decide)) rfl rfl (by decide) inT9 tb_1_59 rfl dX3_digitsOf_9 rfl (fun r9 => ?_)
      refine x_icmp_ge 33 15 C dX3_digitsOf_12 rfl rfl (by omega) (by omega) (fun h12 => ?_) (fun h12 => ?_)
      · refine x_iload_n 34 C dX3_digitsOf_33 rfl rfl rfl ?_
        refine x_iret C T dX3_digitsOf_34 ?_
        have hdi := dK_in n k
        have hsn : s = n := by omega
        subst hsn
        exact PE_i (by rw [hn]; rfl) (by unfold dK at hdi; omega)
      refine x_bipush 17 C dX3_digitsOf_15 rfl rfl ?_
      refine x_iload_n 18 C dX3_digitsOf_17 rfl rfl rfl ?_
      refine x_imul 19 C dX3_digitsOf_18 rfl ?_
      refine x_aload_n 20 C dX3_digitsOf_19 rfl rfl rfl ?_
      refine x_iload_n 21 C dX3_digitsOf_20 rfl rfl rfl ?_
      refine x_iload_n 22 C dX3_digitsOf_21 rfl rfl rfl ?_
      refine x_callVe 25 C dX3_digitsOf_22 rfl (c_X3_wayByCode (k := k) (s := s) hT (by rw [hn]; exact hk) (by omega)) rfl (lt79 (by decide)) rfl tb_4_3 tb_4_5 tb_0_30 tb_1_18 tb_4_6 (na := 2) (by decide +kernel) rfl ⟨by decide, by decide⟩ rfl (Nat.le_of_ble_eq_true rfl) rfl (fun r22 => ?_)
      rw [hn]
      refine x_iadd 26 C dX3_digitsOf_25 rfl ?_
      refine x_istore_n2 27 C dX3_digitsOf_26 rfl rfl ?_
      refine x_iinc_3 30 C dX3_digitsOf_27 rfl rfl ?_
      refine x_goto 4 C dX3_digitsOf_30 rfl ?_
      exact ih _ (by omega) (s + 1) _ _ rfl ⟨by omega, by omega, rfl⟩
  exact L4 _ 0 _ _ rfl ⟨by omega, rfl, rfl⟩

set_option maxHeartbeats 4000000 in
set_option maxRecDepth 100000 in
theorem c_X3_worthByCode {l : Launch} {G : Gt} {ρ : Nat → Nat} {tc : Nat} {cl : Nat → Nat} {σ : Sig} {X : Nat → RuT} {k : Nat} (hT : TI σ) (hA : HLA X σ σ) (hO : ORD σ) (hk : k < 4 ^ slN (cT σ)) : MX l yX3_worthByCode cX3_worthByCode 7 (some .int) 1 24 G (NN tc) ρ (shp tc cl) [.ref (ρ 32), .int (iZ (k : Int))] σ (PE σ (wsW X (cT σ) (wK (slN (cT σ)) k))) := by
  refine MX_of [some (.ref (ρ 32)), some (.int (iZ (k : Int))), none, none, none, none, none] (by decide +kernel) rfl rfl (Nat.le_of_ble_eq_true rfl) ?_
  intro K hKl C T hRng
  subst hKl
  have h8 := hT.2.2.2.1
  have hTc := TI_cT hT
  obtain ⟨n, hn⟩ : ∃ n : Nat, slN (cT σ) = n := ⟨_, rfl⟩
  have hn2 : (n : Int) = σ 1 8 := by rw [← hn, slN_T]; omega
  rw [hn] at hk
  have hp4 := p4_le n (by omega)
  have hp10 := p10_le n (by omega)
  obtain ⟨W, hWd⟩ : ∃ W, wK (slN (cT σ)) k = W := ⟨_, rfl⟩
  have hW : okW W := by rw [← hWd]; exact wK_ok _ k
  refine x_iconst 1 C dX3_worthByCode_0 rfl ?_
  refine x_istore_n2 2 C dX3_worthByCode_1 rfl rfl ?_
  refine x_iconst 3 C dX3_worthByCode_2 rfl ?_
  refine x_istore_n3 4 C dX3_worthByCode_3 rfl rfl ?_
  refine x_iconst 5 C dX3_worthByCode_4 rfl ?_
  refine x_istore_4 7 C dX3_worthByCode_5 rfl rfl ?_
  have L7 : ∀ (mz : Nat) (i : Nat) (y gv wv : Int) (x5 x6 : Option Value), mz = 6 - i → ((i : Int) ≤ σ 1 8 ∧ y = i ∧ gv = (gon (cT σ) (lsW X (cT σ) W) i : Nat) ∧ wv = wsP X (cT σ) W i) → Ex K G (NN tc) ρ (shp tc cl) 7 [some (.ref (ρ 32)), some (.int (iZ (k : Int))), some (.int (iZ gv)), some (.int (iZ wv)), some (.int (iZ y)), x5, x6] [] σ := by
    intro mz
    induction mz using Nat.strongRecOn with
    | ind mz ih =>
      intro i y gv wv x5 x6 hmz hinv
      obtain ⟨hi, rfl, rfl, hwv⟩ := hinv
      obtain ⟨g, hg⟩ : ∃ g, gon (cT σ) (lsW X (cT σ) W) i = g := ⟨_, rfl⟩
      rw [hg]
      have hg64 : g < 64 := by rw [← hg]; exact gonW_lt hT W i
      refine x_iload 9 C dX3_worthByCode_7 rfl rfl ?_
      refine x_aload_n 10 C dX3_worthByCode_9 rfl rfl rfl ?_
      refine x_getr (j := 0) 13 C rfl (lt79 (by decide)) rfl rfl (by decide) inT3 tb_2_107 rfl dX3_worthByCode_10 rfl ?_
      refine x_geti (j := 8) 16 C rfl (lt79 (by decide)) rfl rfl (by decide) inT9 tb_1_59 rfl dX3_worthByCode_13 rfl (fun r13 => ?_)
      refine x_icmp_ge 95 19 C dX3_worthByCode_16 rfl rfl (by omega) (by omega) (fun h16 => ?_) (fun h16 => ?_)
      · refine x_iload_n 96 C dX3_worthByCode_95 rfl rfl rfl ?_
        refine x_iret C T dX3_worthByCode_96 ?_
        have hin : i = slN (cT σ) := by omega
        have hwp := wsW_pos (X := X) hTc (W := W)
        rw [hin, wsP_n] at hwv
        exact PE_i (by rw [hWd]; exact hwv) (by omega)
      refine x_aload_n 20 C dX3_worthByCode_19 rfl rfl rfl ?_
      refine x_getr (j := 9) 23 C rfl (lt79 (by decide)) rfl rfl (by decide) inT3 tb_2_116 rfl dX3_worthByCode_20 rfl ?_
      refine x_iload 25 C dX3_worthByCode_23 rfl rfl ?_
      refine x_iald 26 C rfl (lt79 (by decide)) dX3_worthByCode_25 rfl (by omega) (by omega) (fun r25 => ?_)
      rw [show (i : Int).toNat = i from Int.toNat_natCast i, hO i (by omega)] at r25 ⊢
      obtain ⟨s, hs⟩ : ∃ s, ordN (cT σ) i = s := ⟨_, rfl⟩
      rw [hs] at r25 ⊢
      have hslt : s < slN (cT σ) := by rw [← hs]; exact ordN_lt (by omega)
      have hWs : W s < 4 := hW s
      refine x_istore_5 28 C dX3_worthByCode_26 rfl rfl ?_
      refine x_aload_n 29 C dX3_worthByCode_28 rfl rfl rfl ?_
      refine x_iload 31 C dX3_worthByCode_29 rfl rfl ?_
      refine x_iconst 32 C dX3_worthByCode_31 rfl ?_
      refine x_imul 33 C dX3_worthByCode_32 rfl ?_
      refine x_aload_n 34 C dX3_worthByCode_33 rfl rfl rfl ?_
      refine x_iload_n 35 C dX3_worthByCode_34 rfl rfl rfl ?_
      refine x_iload 37 C dX3_worthByCode_35 rfl rfl ?_
      refine x_callVe 40 C dX3_worthByCode_37 rfl (c_X3_wayByCode (k := k) (s := s) hT (by rw [hn]; exact hk) (by omega)) rfl (lt79 (by decide)) rfl tb_4_3 tb_4_5 tb_0_30 tb_1_18 tb_4_6 (na := 2) (by decide +kernel) rfl ⟨by decide, by decide⟩ rfl (Nat.le_of_ble_eq_true rfl) rfl (fun r37 => ?_)
      rw [hWd]
      refine x_iadd 41 C dX3_worthByCode_40 rfl ?_
      rw [show (s : Int) * 4 + (W s : Int) = ((4 * s + W s : Nat) : Int) by omega]
      refine x_iload_n 42 C dX3_worthByCode_41 rfl rfl rfl ?_
      refine x_callVi 45 C dX3_worthByCode_42 rfl (c_X3_firstFree (li := 4 * s + W s) (g := g) (by omega) hg64 (hA s (by omega) (W s) hWs) (seenG_le6 hT s (W s) hWs) (fun q hq => lsW_mem (W := W) hT hq)) rfl (lt79 (by decide)) rfl tb_3_173 tb_3_175 tb_0_24 tb_1_18 tb_3_176 (na := 2) (by decide +kernel) rfl ⟨by decide, by decide⟩ rfl (Nat.le_of_ble_eq_true rfl) rfl (fun z42 s42 hz42 hq42 hR42 => ?_)
      obtain ⟨he42, hz⟩ := hq42
      subst he42
      have hls : lsW X (cT σ) W s = seenG X (cT σ) (σ 7 s) (W s : Nat) (σ 9 s) s := rfl
      have hLs := hA s (by omega) (W s) hWs
      rw [← hls] at hz hLs
      have hgs : gon (cT σ) (lsW X (cT σ) W) (i + 1) = gaft g (frst (lsW X (cT σ) W s) g) := by
        show gaft (gon (cT σ) (lsW X (cT σ) W) i) (frst (lsW X (cT σ) W (ordN (cT σ) i)) (gon (cT σ) (lsW X (cT σ) W) i)) = _
        rw [hg, hs]
      have hwo : woP X (cT σ) W i = worO X (cT σ) (σ 9 s) s (frst (lsW X (cT σ) W s) g) := by
        unfold woP
        rw [hg, hs]
        rfl
      have hff : (z42 = -1 ∧ frst (lsW X (cT σ) W s) g = none) ∨ (z42 ≠ -1 ∧ ∃ q, frst (lsW X (cT σ) W s) g = some q ∧ 0 ≤ z42 ∧ z42 < 120 ∧ σ 37 z42.toNat = (q.1 : Int) ∧ σ 38 z42.toNat = wrth X (cT σ) (σ 9 s) s q ∧ q.1 < 6) := by
        rcases hz with ⟨z1, z2⟩ | ⟨j, q, z1, z2, z3⟩
        · exact Or.inl ⟨z1, z2⟩
        · have hjl := (List.getElem?_eq_some_iff.mp z2).1
          have h6 := seenG_le6 (X := X) hT s (W s) hWs
          rw [← hls] at h6
          obtain ⟨w1, w2⟩ := hLs.2 j q z2
          rw [show 6 * (4 * s + W s) + j = z42.toNat by omega] at w1 w2
          exact Or.inr ⟨by omega, q, z3, by omega, by omega, w1, w2, lsW_mem hT (List.mem_of_getElem? z2)⟩
      clear hz
      refine x_istore_6 47 C dX3_worthByCode_45 rfl rfl ?_
      have J65 : ∀ (v2 : Int), (v2 = woP X (cT σ) W i ∧ (0 ≤ v2 ∧ v2 ≤ 1000)) → Ex K G (NN tc) ρ (shp tc cl) 65 [some (.ref (ρ 32)), some (.int (iZ (k : Int))), some (.int (iZ (g : Int))), some (.int (iZ wv)), some (.int (iZ (i : Int))), some (.int (iZ (s : Int))), some (.int (iZ z42))] [.int (iZ v2), .int (iZ wv)] σ := by
        intro v2 hinv
        obtain ⟨hv3, hv4⟩ := hinv
        refine x_iadd 66 C dX3_worthByCode_65 rfl ?_
        refine x_istore_n3 67 C dX3_worthByCode_66 rfl rfl ?_
        have J87 : ∀ (v : Int), (0 ≤ v ∧ v ≤ 32 ∧ iZ (g : Int) ||| iZ v = iZ ((gon (cT σ) (lsW X (cT σ) W) (i + 1) : Nat) : Int)) → Ex K G (NN tc) ρ (shp tc cl) 87 [some (.ref (ρ 32)), some (.int (iZ (k : Int))), some (.int (iZ (g : Int))), some (.int (iZ (wv + v2))), some (.int (iZ (i : Int))), some (.int (iZ (s : Int))), some (.int (iZ z42))] [.int (iZ v), .int (iZ (g : Int))] σ := by
          intro v hinv
          obtain ⟨hv1, hv2, hor⟩ := hinv
          refine x_ior (((gon (cT σ) (lsW X (cT σ) W) (i + 1) : Nat) : Int)) 88 C dX3_worthByCode_87 rfl hor ?_
          refine x_istore_n2 89 C dX3_worthByCode_88 rfl rfl ?_
          refine x_iinc_4 92 C dX3_worthByCode_89 rfl rfl ?_
          refine x_goto 7 C dX3_worthByCode_92 rfl ?_
          exact ih _ (by omega) (i + 1) _ _ _ _ _ rfl ⟨by omega, by omega, rfl, by rw [hv3, hwv]; rfl⟩
        refine x_iload_n 68 C dX3_worthByCode_67 rfl rfl rfl ?_
        refine x_iload 70 C dX3_worthByCode_68 rfl rfl ?_
        refine x_iconst 71 C dX3_worthByCode_70 rfl ?_
        refine x_icmp_ne 78 74 C dX3_worthByCode_71 rfl rfl (by omega) (by omega) (fun h71 => ?_) (fun h71 => ?_)
        · refine x_iconst 79 C dX3_worthByCode_78 rfl ?_
          refine x_aload_n 80 C dX3_worthByCode_79 rfl rfl rfl ?_
          refine x_getr (j := 7) 83 C rfl (lt79 (by decide)) rfl rfl (by decide) inT3 tb_2_114 rfl dX3_worthByCode_80 rfl ?_
          refine x_iload 85 C dX3_worthByCode_83 rfl rfl ?_
          refine x_iald 86 C rfl (lt79 (by decide)) dX3_worthByCode_85 rfl (by omega) (by omega) (fun r85 => ?_)
          obtain ⟨q, hq1, hq2, hq3, hq4, hq5, hq6⟩ : ∃ q, frst (lsW X (cT σ) W s) g = some q ∧ 0 ≤ z42 ∧ z42 < 120 ∧ σ 37 z42.toNat = (q.1 : Int) ∧ σ 38 z42.toNat = wrth X (cT σ) (σ 9 s) s q ∧ q.1 < 6 := by
            rcases hff with ⟨a, b⟩ | ⟨a, h⟩
            · omega
            · exact h
          rw [hq4] at *
          refine x_ishl (((2 ^ q.1 : Nat) : Int)) 87 C dX3_worthByCode_86 rfl (sh1 q.1 hq6) ?_
          have hgo : 0 ≤ ((2 ^ q.1 : Nat) : Int) ∧ ((2 ^ q.1 : Nat) : Int) ≤ 32 ∧ (iZ (g : Int) ||| iZ ((2 ^ q.1 : Nat) : Int)) = iZ ((gon (cT σ) (lsW X (cT σ) W) (i + 1) : Nat) : Int) := by
            have hpp := pw_pos q.1 hq6
            refine ⟨by omega, by omega, ?_⟩
            rw [or1 g hg64 q.1 hq6, hgs, hq1]
            rfl
          exact J87 _ hgo
        have hgo : 0 ≤ (0 : Int) ∧ (0 : Int) ≤ 32 ∧ (iZ (g : Int) ||| iZ 0) = iZ ((gon (cT σ) (lsW X (cT σ) W) (i + 1) : Nat) : Int) := by
          refine ⟨by omega, by omega, ?_⟩
          rw [or0 g hg64, hgs]
          rcases hff with ⟨a, b⟩ | ⟨a, h⟩
          · rw [b]; rfl
          · omega
        refine x_iconst 75 C dX3_worthByCode_74 rfl ?_
        refine x_goto 87 C dX3_worthByCode_75 rfl ?_
        exact J87 _ hgo
      refine x_iload_n 48 C dX3_worthByCode_47 rfl rfl rfl ?_
      refine x_iload 50 C dX3_worthByCode_48 rfl rfl ?_
      refine x_iconst 51 C dX3_worthByCode_50 rfl ?_
      refine x_icmp_ne 58 54 C dX3_worthByCode_51 rfl rfl (by omega) (by omega) (fun h51 => ?_) (fun h51 => ?_)
      · refine x_aload_n 59 C dX3_worthByCode_58 rfl rfl rfl ?_
        refine x_getr (j := 8) 62 C rfl (lt79 (by decide)) rfl rfl (by decide) inT3 tb_2_115 rfl dX3_worthByCode_59 rfl ?_
        refine x_iload 64 C dX3_worthByCode_62 rfl rfl ?_
        refine x_iald 65 C rfl (lt79 (by decide)) dX3_worthByCode_64 rfl (by omega) (by omega) (fun r64 => ?_)
        exact J65 _ ⟨by rcases hff with ⟨a, b⟩ | ⟨a, q, b, c, dd, e, f2, g2⟩ <;> first | (rw [hwo, b]; rfl) | (rw [hwo, b, f2]; rfl) | omega, by rcases hff with ⟨a, b⟩ | ⟨a, q, b, c, dd, e, f2, g2⟩ <;> first | omega | (rw [f2]; exact wrth_in hTc (by have := seenG_mem (frst_mem b).1; omega))⟩
      refine x_iconst 55 C dX3_worthByCode_54 rfl ?_
      refine x_goto 65 C dX3_worthByCode_55 rfl ?_
      exact J65 _ ⟨by rcases hff with ⟨a, b⟩ | ⟨a, q, b, c, dd, e, f2, g2⟩ <;> first | (rw [hwo, b]; rfl) | (rw [hwo, b, f2]; rfl) | omega, by rcases hff with ⟨a, b⟩ | ⟨a, q, b, c, dd, e, f2, g2⟩ <;> first | omega | (rw [f2]; exact wrth_in hTc (by have := seenG_mem (frst_mem b).1; omega))⟩
  exact L7 _ 0 _ _ _ _ _ rfl ⟨by omega, rfl, rfl, rfl⟩
