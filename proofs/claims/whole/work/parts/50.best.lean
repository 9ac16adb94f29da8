/-! one sleeper wakes in another minute, its bed stands otherwise -/
def tS (T : Sig) (s : Nat) (m w : Int) : Sig := up (up T 9 s m) 8 s w
theorem cT_S {σ : Sig} {s : Nat} {m w : Int} : cT (tS σ s m w) = tS (cT σ) s m w := by unfold tS; rw [cT_up8, cT_up9]
theorem tS_row {σ : Sig} {s a : Nat} {m w : Int} (h : a ≠ 8) (h2 : a ≠ 9) : tS σ s m w a = σ a := by unfold tS; rw [up_row h, up_row h2]
theorem tS_8 {σ : Sig} {s b : Nat} {m w : Int} (h : b ≠ s) : tS σ s m w 8 b = σ 8 b := by unfold tS; rw [up_i h, up_r (by omega)]
theorem tS_9 {σ : Sig} {s b : Nat} {m w : Int} (h : b ≠ s) : tS σ s m w 9 b = σ 9 b := by unfold tS; rw [up_r (by omega), up_i h]
theorem tS_8s {σ : Sig} {s : Nat} {m w : Int} : tS σ s m w 8 s = w := by unfold tS; rw [up_s]
theorem tS_9s {σ : Sig} {s : Nat} {m w : Int} : tS σ s m w 9 s = m := by unfold tS; rw [up_r (by omega), up_s]
theorem TI_S {σ : Sig} (h : TI σ) {s : Nat} {m w : Int} (hm : 0 ≤ m ∧ m ≤ 23) (hw : 0 ≤ w ∧ w ≤ 3) : TI (tS σ s m w) := by
  obtain ⟨h1, h2, h3, h4, h5⟩ := h
  refine ⟨h1, h2, h3, h4, fun i => ?_⟩
  obtain ⟨a1, a2, a3, a4, a5, a6, a7, a8, a9⟩ := h5 i
  refine ⟨a1, a2, a3, a4, a5, a6, ?_, ?_, a9⟩
  · by_cases hi : i = s
    · subst hi; rw [tS_8s]; exact hw
    · rw [tS_8 hi]; exact a7
  · by_cases hi : i = s
    · subst hi; rw [tS_9s]; exact hm
    · rw [tS_9 hi]; exact a8
theorem CW_S {X : Nat → RuT} {tc : Nat} {cl : Nat → Nat} {σ : Sig} (h : CW X tc cl σ) {s : Nat} {m w : Int} (hm : 0 ≤ m ∧ m ≤ 23) (hw : 0 ≤ w ∧ w ≤ 3) : CW X tc cl (tS σ s m w) := by
  refine ⟨TI_S h.1 hm hw, ⟨h.2.1.1, fun t ht => ?_⟩, h.2.2⟩
  rw [tS_row (show 79 + 3 * t ≠ 8 by omega) (show 79 + 3 * t ≠ 9 by omega), tS_row (show 79 + 3 * t + 1 ≠ 8 by omega) (show 79 + 3 * t + 1 ≠ 9 by omega)]
  exact h.2.1.2 t ht
theorem isSn_cong {X : Nat → RuT} {T T' : Sig} (h : ∀ a, a ≤ 6 → T' a = T a) : isSn X T' = isSn X T := by
  funext c w m s f t
  unfold isSn plc
  rw [h 1 (by omega), h 2 (by omega), h 3 (by omega), h 5 (by omega), h 6 (by omega)]
theorem seenG_cong {X : Nat → RuT} {T T' : Sig} (h : ∀ a, a ≤ 6 → T' a = T a) : seenG X T' = seenG X T := by
  funext c w m s
  unfold seenG seenP rowS1 thN
  rw [isSn_cong h, h 1 (by omega)]
theorem wrth_cong {X : Nat → RuT} {T T' : Sig} (h : ∀ a, a ≤ 6 → T' a = T a) : wrth X T' = wrth X T := by
  funext m s q
  unfold wrth plc
  rw [h 1 (by omega), h 2 (by omega), h 3 (by omega), h 4 (by omega), h 5 (by omega), h 6 (by omega)]
theorem tS_low {T : Sig} {s : Nat} {m w : Int} : ∀ a, a ≤ 6 → tS T s m w a = T a := fun a ha => tS_row (by omega) (by omega)
theorem seenT_S {X : Nat → RuT} {T : Sig} {s q : Nat} {m w : Int} (h : q ≠ s) : seenT X (tS T s m w) q = seenT X T q := by
  unfold seenT
  rw [seenG_cong tS_low, tS_row (by omega) (by omega), tS_8 h, tS_9 h]
/-- the lists of all beds but that of s -/
def HO (X : Nat → RuT) (σ : Sig) (s : Nat) (s1 : Sig) : Prop := ∀ q : Nat, q ≠ s → (q : Int) < σ 1 8 → LKa s1 (4 * q + (σ 8 q).toNat) (seenT X (cT σ) q) (wrth X (cT σ) (σ 9 q) q)
theorem HL_HO {X : Nat → RuT} {σ s1 : Sig} (h : HL X σ s1) (s : Nat) : HO X σ s s1 := fun q _ hq => h q hq
theorem HO_keep {X : Nat → RuT} {τ σ s : Sig} {k : Nat} (h : HO X τ k σ) (h1 : s 36 = σ 36) (h2 : s 37 = σ 37) (h3 : s 38 = σ 38) : HO X τ k s := fun a hk ha => LKa_keep (h a hk ha) h1 h2 h3
theorem HO_OLk {X : Nat → RuT} {τ σ s : Sig} {k l : Nat} (hT : TI τ) (h : HO X τ k σ) (ho : OLk l σ s) (hl : 4 * k ≤ l ∧ l < 4 * k + 4) : HO X τ k s := fun q hq hn => by
  have := hT.2.2.2.2 q
  exact LKa_other (h q hq hn) ho (by omega) (seenT_le hT q)
theorem HL_S {X : Nat → RuT} {σ s1 : Sig} {s : Nat} {m w : Int} (h : HO X σ s s1) (hs : LKa s1 (4 * s + w.toNat) (seenT X (tS (cT σ) s m w) s) (wrth X (tS (cT σ) s m w) m s)) : HL X (tS σ s m w) s1 := by
  intro q hq
  rw [cT_S]
  by_cases hqs : q = s
  · subst hqs
    rw [tS_8s, tS_9s]
    exact hs
  · rw [tS_8 hqs, tS_9 hqs, seenT_S hqs, wrth_cong tS_low]
    exact h q hqs hq
/-- the world but for the bed of s, what is best and what a morning changes -/
def KB (σb : Sig) (s : Nat) (σ : Sig) : Prop := (∀ a, a ≠ 0 → a ≠ 8 → a ≠ 9 → ¬ (33 ≤ a ∧ a ≤ 41) → ¬ (81 ≤ a ∧ a < 97 ∧ a % 3 = 0) → σ a = σb a) ∧ (∀ i, i ≠ s → σ 8 i = σb 8 i ∧ σ 9 i = σb 9 i) ∧ (∀ b, b < 9 → σ 0 b = σb 0 b)
theorem KB_refl (σ : Sig) (s : Nat) : KB σ s σ := ⟨fun _ _ _ _ _ _ => rfl, fun _ _ => ⟨rfl, rfl⟩, fun _ _ => rfl⟩
theorem KB_Kp {σb σ σ' : Sig} {s lo hi : Nat} (h : KB σb s σ) (hk : Kp lo hi σ σ') (hl : 33 ≤ lo ∧ hi ≤ 41) : KB σb s σ' := ⟨fun a h1 h2 h3 h4 h5 => (hk a (by omega) h5).trans (h.1 a h1 h2 h3 h4 h5), fun i hi => by rw [hk 8 (by omega) (by omega), hk 9 (by omega) (by omega)]; exact h.2.1 i hi, fun b hb => by rw [hk 0 (by omega) (by omega)]; exact h.2.2 b hb⟩
theorem KB_up8 {σb σ : Sig} {s : Nat} {v : Int} (h : KB σb s σ) : KB σb s (up σ 8 s v) := ⟨fun a h1 h2 h3 h4 h5 => by rw [up_row h2]; exact h.1 a h1 h2 h3 h4 h5, fun i hi => by rw [up_i hi, up_row (by omega)]; exact h.2.1 i hi, fun b hb => by rw [up_row (by omega)]; exact h.2.2 b hb⟩
theorem KB_up9 {σb σ : Sig} {s : Nat} {v : Int} (h : KB σb s σ) : KB σb s (up σ 9 s v) := ⟨fun a h1 h2 h3 h4 h5 => by rw [up_row h3]; exact h.1 a h1 h2 h3 h4 h5, fun i hi => by rw [up_row (show (8 : Nat) ≠ 9 by omega), up_i hi]; exact h.2.1 i hi, fun b hb => by rw [up_row (by omega)]; exact h.2.2 b hb⟩
theorem KB_up0 {σb σ : Sig} {s i : Nat} {v : Int} (h : KB σb s σ) (hi : 9 ≤ i) : KB σb s (up σ 0 i v) := ⟨fun a h1 h2 h3 h4 h5 => by rw [up_row h1]; exact h.1 a h1 h2 h3 h4 h5, fun j hj => by rw [up_row (show (8 : Nat) ≠ 0 by omega), up_row (show (9 : Nat) ≠ 0 by omega)]; exact h.2.1 j hj, fun b hb => by rw [up_i (by omega)]; exact h.2.2 b hb⟩
theorem KB_S {σb σ : Sig} {s : Nat} (h : KB σb s σ) : ∀ a, a ≤ 10 → 1 ≤ a → σ a = tS σb s (σ 9 s) (σ 8 s) a := by
  intro a ha h0
  by_cases h8 : a = 8
  · subst h8
    funext b
    by_cases hb : b = s
    · subst hb; rw [tS_8s]
    · rw [tS_8 hb]; exact (h.2.1 b hb).1
  · by_cases h9 : a = 9
    · subst h9
      funext b
      by_cases hb : b = s
      · subst hb; rw [tS_9s]
      · rw [tS_9 hb]; exact (h.2.1 b hb).2
    · rw [tS_row h8 h9]; exact h.1 a (by omega) h8 h9 (by omega) (by omega)
theorem cT_keep1 {σ σ' : Sig} (h : ∀ a, a ≤ 10 → 1 ≤ a → σ' a = σ a) : cT σ' = cT σ := by
  funext a b
  unfold cT
  rw [h 1 (by omega) (by omega), h 2 (by omega) (by omega), h 3 (by omega) (by omega), h 4 (by omega) (by omega), h 5 (by omega) (by omega), h 6 (by omega) (by omega), h 7 (by omega) (by omega), h 8 (by omega) (by omega), h 9 (by omega) (by omega), h 10 (by omega) (by omega)]
theorem TI_keep1 {σ σ' : Sig} (h : ∀ a, a ≤ 10 → 1 ≤ a → σ' a = σ a) (hT : TI σ) : TI σ' := by
  unfold TI at hT ⊢
  rw [h 1 (by omega) (by omega), h 2 (by omega) (by omega), h 3 (by omega) (by omega), h 4 (by omega) (by omega), h 5 (by omega) (by omega), h 6 (by omega) (by omega), h 7 (by omega) (by omega), h 8 (by omega) (by omega), h 9 (by omega) (by omega), h 10 (by omega) (by omega)]
  exact hT
theorem cT_KB {σb σ : Sig} {s : Nat} (h : KB σb s σ) : cT σ = tS (cT σb) s (σ 9 s) (σ 8 s) := by
  rw [← cT_S]
  exact cT_keep1 (KB_S h)
theorem TI_KB {σb σ : Sig} {s : Nat} (h : KB σb s σ) (hT : TI σb) (hm : 0 ≤ σ 9 s ∧ σ 9 s ≤ 23) (hw : 0 ≤ σ 8 s ∧ σ 8 s ≤ 3) : TI σ := TI_keep1 (KB_S h) (TI_S (s := s) hT hm hw)
theorem CW_KB {X : Nat → RuT} {tc : Nat} {cl : Nat → Nat} {σb σ : Sig} {s : Nat} (h : KB σb s σ) (hW : CW X tc cl σb) (hm : 0 ≤ σ 9 s ∧ σ 9 s ≤ 23) (hw : 0 ≤ σ 8 s ∧ σ 8 s ≤ 3) : CW X tc cl σ := by
  refine ⟨TI_KB h hW.1 hm hw, ⟨hW.2.1.1, fun t ht => ?_⟩, ?_⟩
  · have := hW.2.1.1
    rw [h.1 (79 + 3 * t) (by omega) (by omega) (by omega) (by omega) (by omega), h.1 (79 + 3 * t + 1) (by omega) (by omega) (by omega) (by omega) (by omega)]
    exact hW.2.1.2 t ht
  · rw [h.1 1 (by omega) (by omega) (by omega) (by omega) (by omega)]; exact hW.2.2
theorem tS_tS {T : Sig} {s : Nat} {m w m' w' : Int} : tS (tS T s m w) s m' w' = tS T s m' w' := by
  funext a b
  by_cases h8 : a = 8
  · subst h8
    by_cases hb : b = s
    · subst hb; rw [tS_8s, tS_8s]
    · rw [tS_8 hb, tS_8 hb, tS_8 hb]
  · by_cases h9 : a = 9
    · subst h9
      by_cases hb : b = s
      · subst hb; rw [tS_9s, tS_9s]
      · rw [tS_9 hb, tS_9 hb, tS_9 hb]
    · rw [tS_row h8 h9, tS_row h8 h9, tS_row h8 h9]
set_option maxHeartbeats 4000000 in
set_option maxRecDepth 100000 in
theorem c_X11_tryBest {l : Launch} {G : Gt} {ρ : Nat → Nat} {tc : Nat} {cl : Nat → Nat} {σ : Sig} {X : Nat → RuT} {σb : Sig} {s : Nat} {m w : Int} (hW : CW X tc cl σb) (hs : (s : Int) < σb 1 8) (hB : KB σb s σ) (hO : HO X σb s σ) (hm : 0 ≤ m ∧ m ≤ 23) (hw : 0 ≤ w ∧ w ≤ 3) : MX l yX11_tryBest cX11_tryBest 5 none 5 129 G (NN tc) ρ (shp tc cl) [.ref (ρ 0), .int (iZ (s : Int)), .int (iZ m), .int (iZ w)] σ (PV (fun σ' => KB σb s σ' ∧ HO X σb s σ' ∧ σ' 9 s = m ∧ σ' 8 s = w ∧ (σ 0 11 < (leftT X (tS (cT σb) s m w) s) → σ' 0 9 = m ∧ σ' 0 10 = w ∧ σ' 0 11 = (leftT X (tS (cT σb) s m w) s)) ∧ (¬ σ 0 11 < (leftT X (tS (cT σb) s m w) s) → σ' 0 9 = σ 0 9 ∧ σ' 0 10 = σ 0 10 ∧ σ' 0 11 = σ 0 11))) := by
  refine MX_of [some (.ref (ρ 0)), some (.int (iZ (s : Int))), some (.int (iZ m)), some (.int (iZ w)), none] (by decide +kernel) rfl rfl (Nat.le_of_ble_eq_true rfl) ?_
  intro K hKl C T hRng
  subst hKl
  have h8 := hW.1.2.2.2.1
  have hss : (s : Int).toNat = s := Int.toNat_natCast s
  have hlt := leftT_in (X := X) (s := s) (TI_S (s := s) (TI_cT hW.1) hm hw)
  refine x_aload_n 1 C dX11_tryBest_0 rfl rfl rfl ?_
  refine x_getr (j := 0) 4 C rfl (lt79 (by decide)) rfl rfl (by decide) inT11 tb_2_173 rfl dX11_tryBest_1 rfl ?_
  refine x_getr (j := 11) 7 C rfl (lt79 (by decide)) rfl rfl (by decide) inT9 tb_1_70 rfl dX11_tryBest_4 rfl ?_
  refine x_iload_n 8 C dX11_tryBest_7 rfl rfl rfl ?_
  refine x_iload_n 9 C dX11_tryBest_8 rfl rfl rfl ?_
  refine x_iast 10 C rfl (lt79 (by decide)) dX11_tryBest_9 rfl (by omega) (by omega) (by omega) ?_
  refine x_aload_n 11 C dX11_tryBest_10 rfl rfl rfl ?_
  refine x_getr (j := 0) 14 C rfl (lt79 (by decide)) rfl rfl (by decide) inT11 tb_2_173 rfl dX11_tryBest_11 rfl ?_
  refine x_getr (j := 10) 17 C rfl (lt79 (by decide)) rfl rfl (by decide) inT9 tb_1_67 rfl dX11_tryBest_14 rfl ?_
  refine x_iload_n 18 C dX11_tryBest_17 rfl rfl rfl ?_
  refine x_iload_n 19 C dX11_tryBest_18 rfl rfl rfl ?_
  refine x_iast 20 C rfl (lt79 (by decide)) dX11_tryBest_19 rfl (by omega) (by omega) (by omega) ?_
  rw [hss]
  obtain ⟨s2, hs2⟩ : ∃ s2, up (up σ 9 s m) 8 s w = s2 := ⟨_, rfl⟩
  rw [hs2]
  have hB2 : KB σb s s2 := by rw [← hs2]; exact KB_up8 (KB_up9 hB)
  have u8 : s2 8 s = w := by rw [← hs2, up_s]
  have u9 : s2 9 s = m := by rw [← hs2, up_r (by omega), up_s]
  have hW2 := CW_KB hB2 hW (by omega) (by omega)
  have e18 : s2 1 8 = σb 1 8 := congrFun (hB2.1 1 (by omega) (by omega) (by omega) (by omega) (by omega)) 8
  refine x_aload_n 21 C dX11_tryBest_20 rfl rfl rfl ?_
  refine x_getr (j := 7) 24 C rfl (lt79 (by decide)) rfl rfl (by decide) inT11 tb_2_180 rfl dX11_tryBest_21 rfl ?_
  refine x_iload_n 25 C dX11_tryBest_24 rfl rfl rfl ?_
  refine x_callVv 28 C dX11_tryBest_25 rfl (c_X3_look (X := X) (s := s) hW2 (by omega)) rfl (lt79 (by decide)) rfl tb_3_58 tb_3_59 tb_3_60 tb_1_18 tb_3_61 (na := 1) (by decide +kernel) rfl ⟨by decide, by decide⟩ rfl (Nat.le_of_ble_eq_true rfl) rfl (fun s25 hq25 hR25 => ?_)
  obtain ⟨k1, k2, k3⟩ := hq25
  rw [u8] at k2 k3
  rw [cT_KB hB2, u8, u9] at k3
  have hO2 : HO X σb s s25 := HO_OLk hW.1 (HO_keep hO (by rw [← hs2, up_row (by omega), up_row (by omega)]) (by rw [← hs2, up_row (by omega), up_row (by omega)]) (by rw [← hs2, up_row (by omega), up_row (by omega)])) k2 (by omega)
  have hLL := HL_S (m := m) (w := w) hO2 k3
  have hB3 := KB_Kp hB2 k1 (by omega)
  have v8 : s25 8 s = w := (congrFun (k1 8 (by omega) (by omega)) s).trans u8
  have v9 : s25 9 s = m := (congrFun (k1 9 (by omega) (by omega)) s).trans u9
  have hself : ∀ a, s25 a = tS s25 s m w a := fun a => by
    by_cases h8 : a = 8
    · subst h8
      funext b
      by_cases hb : b = s
      · subst hb; rw [tS_8s]; exact v8
      · rw [tS_8 hb]
    · by_cases h9 : a = 9
      · subst h9
        funext b
        by_cases hb : b = s
        · subst hb; rw [tS_9s]; exact v9
        · rw [tS_9 hb]
      · rw [tS_row h8 h9]
  have hself2 : tS s25 s m w = s25 := (funext hself).symm
  have hT25 : TI s25 := TI_KB hB3 hW.1 (by omega) (by omega)
  have hs25 : (s : Int) < tS s25 s m w 1 8 := by rw [hself2]; have := congrFun (hB3.1 1 (by omega) (by omega) (by omega) (by omega) (by omega)) 8; omega
  have hLL2 : HL X (tS s25 s m w) s25 := by
    rw [hself2]
    intro q hq
    have hq2 := hLL q (by rw [tS_row (by omega) (by omega), ← hB3.1 1 (by omega) (by omega) (by omega) (by omega) (by omega)]; exact hq)
    rw [cT_S] at hq2
    rw [cT_KB hB3, v8, v9]
    by_cases hqs : q = s
    · subst hqs
      rw [tS_8s, tS_9s] at hq2
      rw [v8, v9]
      exact hq2
    · rw [tS_8 hqs, tS_9 hqs] at hq2
      rw [(hB3.2.1 q hqs).1, (hB3.2.1 q hqs).2]
      exact hq2
  refine x_aload_n 29 C dX11_tryBest_28 rfl rfl rfl ?_
  refine x_getr (j := 7) 32 C rfl (lt79 (by decide)) rfl rfl (by decide) inT11 tb_2_180 rfl dX11_tryBest_29 rfl ?_
  refine x_callVv 35 C dX11_tryBest_32 rfl (c_X3_deal (X := X) (τ := tS s25 s m w) (TI_S hT25 hm hw) (fun a ha => hself a) hLL2) rfl (lt79 (by decide)) rfl tb_3_218 tb_3_162 tb_3_163 tb_1_18 tb_3_164 (na := 0) (by decide +kernel) rfl ⟨by decide, by decide⟩ rfl (Nat.le_of_ble_eq_true rfl) rfl (fun s32 hq32 hR32 => ?_)
  obtain ⟨k4, k5⟩ := hq32
  have hB4 := KB_Kp hB3 k4 (by omega)
  have w8 : s32 8 s = w := (congrFun (k4 8 (by omega) (by omega)) s).trans v8
  have w9 : s32 9 s = m := (congrFun (k4 9 (by omega) (by omega)) s).trans v9
  have hW4 := CW_KB hB4 hW (by omega) (by omega)
  have f18 : s32 1 8 = σb 1 8 := congrFun (hB4.1 1 (by omega) (by omega) (by omega) (by omega) (by omega)) 8
  have hO4 : HO X σb s s32 := HO_keep hO2 (k4 36 (by omega) (by omega)) (k4 37 (by omega) (by omega)) (k4 38 (by omega) (by omega))
  refine x_aload_n 36 C dX11_tryBest_35 rfl rfl rfl ?_
  refine x_getr (j := 7) 39 C rfl (lt79 (by decide)) rfl rfl (by decide) inT11 tb_2_180 rfl dX11_tryBest_36 rfl ?_
  refine x_iload_n 40 C dX11_tryBest_39 rfl rfl rfl ?_
  refine x_callVi 43 C dX11_tryBest_40 rfl (c_X3_leftOf (X := X) (s := s) hW4 (by omega) (HD_in (TI_S hT25 hm hw) k5 hs25).1) rfl (lt79 (by decide)) rfl tb_3_201 tb_3_191 tb_3_192 tb_1_18 tb_3_193 (na := 1) (by decide +kernel) rfl ⟨by decide, by decide⟩ rfl (Nat.le_of_ble_eq_true rfl) rfl (fun z40 s40 hz40 hq40 hR40 => ?_)
  obtain ⟨k6, k7⟩ := hq40
  have hB5 := KB_Kp hB4 k6 (by omega)
  rw [LFT k5 (by rw [k4 9 (by omega) (by omega)]; exact hself 9) (by rw [congrFun (k4 1 (by omega) (by omega)) 2]; rfl) hs25, cT_S, cT_KB hB3, v8, v9, tS_tS] at k7
  have e0 : s40 0 = σ 0 := by
    rw [k6 0 (by omega) (by omega), k4 0 (by omega) (by omega), k1 0 (by omega) (by omega), ← hs2, up_row (by omega), up_row (by omega)]
  have hO5 : HO X σb s s40 := HO_keep hO4 (k6 36 (by omega) (by omega)) (k6 37 (by omega) (by omega)) (k6 38 (by omega) (by omega))
  have x8 : s40 8 s = w := (congrFun (k6 8 (by omega) (by omega)) s).trans w8
  have x9 : s40 9 s = m := (congrFun (k6 9 (by omega) (by omega)) s).trans w9
  refine x_istore_4 45 C dX11_tryBest_43 rfl rfl ?_
  refine x_iload 47 C dX11_tryBest_45 rfl rfl ?_
  refine x_aload_n 48 C dX11_tryBest_47 rfl rfl rfl ?_
  refine x_geti (j := 11) 51 C rfl (lt79 (by decide)) rfl rfl (by decide) inT11 tb_2_184 rfl dX11_tryBest_48 rfl (fun r48 => ?_)
  refine x_icmp_le 70 54 C dX11_tryBest_51 rfl rfl (by omega) (by omega) (fun h51 => ?_) (fun h51 => ?_)
  · refine x_vret C T dX11_tryBest_70 ?_
    first
      | (refine PV_i ⟨hB5, hO5, x9, x8, fun h => absurd h (by rw [← k7]; have := congrFun e0 11; omega), fun _ => ⟨by rw [e0], by rw [e0], by rw [e0]⟩⟩; done)
      | (refine PV_i ⟨KB_up0 (KB_up0 (KB_up0 hB5 (by omega)) (by omega)) (by omega), HO_keep hO5 (by rw [up_row (by omega), up_row (by omega), up_row (by omega)]) (by rw [up_row (by omega), up_row (by omega), up_row (by omega)]) (by rw [up_row (by omega), up_row (by omega), up_row (by omega)]), ?_, ?_, fun _ => ⟨?_, ?_, ?_⟩, fun h => absurd h (by rw [← k7]; have := congrFun e0 11; omega)⟩
         · rw [up_r (by omega), up_r (by omega), up_r (by omega)]; exact x9
         · rw [up_r (by omega), up_r (by omega), up_r (by omega)]; exact x8
         · rw [up_i (by omega), up_s]
         · rw [up_s]
         · rw [up_i (by omega), up_i (by omega), up_s]; exact k7)
  refine x_aload_n 55 C dX11_tryBest_54 rfl rfl rfl ?_
  refine x_iload 57 C dX11_tryBest_55 rfl rfl ?_
  refine x_puti (j := 11) tyX11 60 C rfl (lt79 (by decide)) rfl rfl (by decide) inT11 tyX11_ok nmX11 tb_2_184 rfl rfl rfl dX11_tryBest_57 rfl (by omega) ?_
  refine x_aload_n 61 C dX11_tryBest_60 rfl rfl rfl ?_
  refine x_iload_n 62 C dX11_tryBest_61 rfl rfl rfl ?_
  refine x_puti (j := 9) tyX11 65 C rfl (lt79 (by decide)) rfl rfl (by decide) inT11 tyX11_ok nmX11 tb_2_182 rfl rfl rfl dX11_tryBest_62 rfl (by omega) ?_
  refine x_aload_n 66 C dX11_tryBest_65 rfl rfl rfl ?_
  refine x_iload_n 67 C dX11_tryBest_66 rfl rfl rfl ?_
  refine x_puti (j := 10) tyX11 70 C rfl (lt79 (by decide)) rfl rfl (by decide) inT11 tyX11_ok nmX11 tb_2_183 rfl rfl rfl dX11_tryBest_67 rfl (by omega) ?_
  refine x_vret C T dX11_tryBest_70 ?_
  first
    | (refine PV_i ⟨hB5, hO5, x9, x8, fun h => absurd h (by rw [← k7]; have := congrFun e0 11; omega), fun _ => ⟨by rw [e0], by rw [e0], by rw [e0]⟩⟩; done)
    | (refine PV_i ⟨KB_up0 (KB_up0 (KB_up0 hB5 (by omega)) (by omega)) (by omega), HO_keep hO5 (by rw [up_row (by omega), up_row (by omega), up_row (by omega)]) (by rw [up_row (by omega), up_row (by omega), up_row (by omega)]) (by rw [up_row (by omega), up_row (by omega), up_row (by omega)]), ?_, ?_, fun _ => ⟨?_, ?_, ?_⟩, fun h => absurd h (by rw [← k7]; have := congrFun e0 11; omega)⟩
       · rw [up_r (by omega), up_r (by omega), up_r (by omega)]; exact x9
       · rw [up_r (by omega), up_r (by omega), up_r (by omega)]; exact x8
       · rw [up_i (by omega), up_s]
       · rw [up_s]
       · rw [up_i (by omega), up_i (by omega), up_s]; exact k7)
