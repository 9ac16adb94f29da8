/-! what is best: sort 0 of all minutes, 1 of all ways, 2 of both -/
def alw (T : Sig) (s : Nat) (sort : Int) (m w : Nat) : Prop := m < 24 ∧ w < 4 ∧ (sort = 1 → (m : Int) = T 9 s) ∧ (sort = 0 → (w : Int) = T 8 s)
def lxl (m w m' w' : Nat) : Prop := m < m' ∨ (m = m' ∧ w < w')
def lfT (X : Nat → RuT) (T : Sig) (s m w : Nat) : Int := leftT X (tS T s m w) s
/-- the best of those ahead of (m, w) -/
def PBs (X : Nat → RuT) (T : Sig) (s : Nat) (sort : Int) (m w : Nat) (bm bw bl : Int) : Prop := ∃ m0 w0, alw T s sort m0 w0 ∧ lxl m0 w0 m w ∧ bm = (m0 : Nat) ∧ bw = (w0 : Nat) ∧ bl = lfT X T s m0 w0 ∧ ∀ m' w', alw T s sort m' w' → lxl m' w' m w → lfT X T s m' w' < bl ∨ (lfT X T s m' w' = bl ∧ ¬ lxl m' w' m0 w0)
def PBn (T : Sig) (s : Nat) (sort : Int) (m w : Nat) : Prop := ∀ m' w', alw T s sort m' w' → ¬ lxl m' w' m w
def PB (X : Nat → RuT) (T : Sig) (s : Nat) (sort : Int) (m w : Nat) (bm bw bl : Int) : Prop := (bl = -100000 ∧ PBn T s sort m w) ∨ PBs X T s sort m w bm bw bl
/-- BEST, its minute, its way, what is left then -/
def Bst (X : Nat → RuT) (T : Sig) (s : Nat) (sort : Int) (bm bw bl : Int) : Prop := ∃ m0 w0, alw T s sort m0 w0 ∧ bm = (m0 : Nat) ∧ bw = (w0 : Nat) ∧ bl = lfT X T s m0 w0 ∧ ∀ m' w', alw T s sort m' w' → lfT X T s m' w' < bl ∨ (lfT X T s m' w' = bl ∧ ¬ lxl m' w' m0 w0)
theorem Bst_uni {X : Nat → RuT} {T : Sig} {s : Nat} {sort bm bw bl bm' bw' bl' : Int} (h : Bst X T s sort bm bw bl) (h' : Bst X T s sort bm' bw' bl') : bm = bm' ∧ bw = bw' ∧ bl = bl' := by
  obtain ⟨m0, w0, a1, rfl, rfl, a4, a5⟩ := h
  obtain ⟨m1, w1, b1, rfl, rfl, b4, b5⟩ := h'
  have c1 := a5 m1 w1 b1
  have c2 := b5 m0 w0 a1
  unfold lxl at c1 c2
  omega
theorem lxl_s {m w m' w' : Nat} : lxl m' w' m (w + 1) ↔ lxl m' w' m w ∨ (m' = m ∧ w' = w) := by unfold lxl; omega
theorem PBn_skip {T : Sig} {s : Nat} {sort : Int} {m w : Nat} (h : PBn T s sort m w) (hn : ¬ alw T s sort m w) : PBn T s sort m (w + 1) := by
  intro m' w' ha hl
  rcases lxl_s.mp hl with hl | ⟨rfl, rfl⟩
  · exact h m' w' ha hl
  · exact hn ha
theorem PBs_skip {X : Nat → RuT} {T : Sig} {s : Nat} {sort : Int} {m w : Nat} {bm bw bl : Int} (h : PBs X T s sort m w bm bw bl) (hn : ¬ alw T s sort m w) : PBs X T s sort m (w + 1) bm bw bl := by
  obtain ⟨m0, w0, a1, a2, a3, a4, a5, a6⟩ := h
  refine ⟨m0, w0, a1, lxl_s.mpr (Or.inl a2), a3, a4, a5, fun m' w' ha hl => ?_⟩
  rcases lxl_s.mp hl with hl | ⟨rfl, rfl⟩
  · exact a6 m' w' ha hl
  · exact absurd ha hn
theorem PBs_keep {X : Nat → RuT} {T : Sig} {s : Nat} {sort : Int} {m w : Nat} {bm bw bl : Int} (h : PBs X T s sort m w bm bw bl) (hn : ¬ bl < lfT X T s m w) : PBs X T s sort m (w + 1) bm bw bl := by
  obtain ⟨m0, w0, a1, a2, a3, a4, a5, a6⟩ := h
  refine ⟨m0, w0, a1, lxl_s.mpr (Or.inl a2), a3, a4, a5, fun m' w' ha hl => ?_⟩
  rcases lxl_s.mp hl with hl | ⟨rfl, rfl⟩
  · exact a6 m' w' ha hl
  · unfold lxl at a2 ⊢
    omega
theorem PBs_new {X : Nat → RuT} {T : Sig} {s : Nat} {sort : Int} {m w : Nat} (ha : alw T s sort m w) (h : ∀ m' w', alw T s sort m' w' → lxl m' w' m w → lfT X T s m' w' < lfT X T s m w) : PBs X T s sort m (w + 1) m w (lfT X T s m w) := by
  refine ⟨m, w, ha, lxl_s.mpr (Or.inr ⟨rfl, rfl⟩), rfl, rfl, rfl, fun m' w' ha' hl => ?_⟩
  rcases lxl_s.mp hl with hl | ⟨rfl, rfl⟩
  · exact Or.inl (h m' w' ha' hl)
  · exact Or.inr ⟨rfl, by unfold lxl; omega⟩
theorem PBs_lt {X : Nat → RuT} {T : Sig} {s : Nat} {sort : Int} {m w : Nat} {bm bw bl : Int} (h : PBs X T s sort m w bm bw bl) (hn : bl < lfT X T s m w) : ∀ m' w', alw T s sort m' w' → lxl m' w' m w → lfT X T s m' w' < lfT X T s m w := by
  obtain ⟨m0, w0, a1, a2, a3, a4, a5, a6⟩ := h
  intro m' w' ha hl
  have := a6 m' w' ha hl
  omega
theorem PB_step {X : Nat → RuT} {T : Sig} {s : Nat} {sort : Int} {m w : Nat} {bm bw bl bm' bw' bl' : Int} (h : PB X T s sort m w bm bw bl) (ha : alw T s sort m w) (hlo : -100000 < lfT X T s m w) (h1 : bl < lfT X T s m w → bm' = m ∧ bw' = w ∧ bl' = lfT X T s m w) (h2 : ¬ bl < lfT X T s m w → bm' = bm ∧ bw' = bw ∧ bl' = bl) : PB X T s sort m (w + 1) bm' bw' bl' := by
  by_cases hb : bl < lfT X T s m w
  · obtain ⟨rfl, rfl, rfl⟩ := h1 hb
    rcases h with ⟨e, h⟩ | h
    · exact Or.inr (PBs_new ha (fun m' w' ha' hl => absurd hl (h m' w' ha')))
    · exact Or.inr (PBs_new ha (PBs_lt h hb))
  · obtain ⟨rfl, rfl, rfl⟩ := h2 hb
    rcases h with ⟨e, h⟩ | h
    · omega
    · exact Or.inr (PBs_keep h hb)
theorem PBn_move {T : Sig} {s : Nat} {sort : Int} {m w m2 w2 : Nat} (hm : ∀ m' w', alw T s sort m' w' → (lxl m' w' m w ↔ lxl m' w' m2 w2)) (h : PBn T s sort m w) : PBn T s sort m2 w2 := fun m' w' ha hl => h m' w' ha ((hm m' w' ha).mpr hl)
theorem PBs_move {X : Nat → RuT} {T : Sig} {s : Nat} {sort : Int} {m w m2 w2 : Nat} {bm bw bl : Int} (hm : ∀ m' w', alw T s sort m' w' → (lxl m' w' m w ↔ lxl m' w' m2 w2)) (h : PBs X T s sort m w bm bw bl) : PBs X T s sort m2 w2 bm bw bl := by
  obtain ⟨m0, w0, a1, a2, a3, a4, a5, a6⟩ := h
  exact ⟨m0, w0, a1, (hm m0 w0 a1).mp a2, a3, a4, a5, fun m' w' ha hl => a6 m' w' ha ((hm m' w' ha).mpr hl)⟩
theorem PB_move {X : Nat → RuT} {T : Sig} {s : Nat} {sort : Int} {m w m2 w2 : Nat} {bm bw bl : Int} (hm : ∀ m' w', alw T s sort m' w' → (lxl m' w' m w ↔ lxl m' w' m2 w2)) (h : PB X T s sort m w bm bw bl) : PB X T s sort m2 w2 bm bw bl := h.imp (fun h => ⟨h.1, PBn_move hm h.2⟩) (PBs_move hm)
theorem alw_some {T : Sig} (hT : TI T) (s : Nat) (sort : Int) : alw T s sort (T 9 s).toNat (T 8 s).toNat := by
  have := hT.2.2.2.2 s
  exact ⟨by omega, by omega, fun _ => by omega, fun _ => by omega⟩
theorem PBs_end {X : Nat → RuT} {T : Sig} {s : Nat} {sort : Int} {bm bw bl : Int} (h : PBs X T s sort 24 0 bm bw bl) : Bst X T s sort bm bw bl := by
  obtain ⟨m0, w0, a1, a2, a3, a4, a5, a6⟩ := h
  exact ⟨m0, w0, a1, a3, a4, a5, fun m' w' ha => a6 m' w' ha (by have := ha.1; unfold lxl; omega)⟩
theorem PB_end {X : Nat → RuT} {T : Sig} {s : Nat} {sort : Int} {bm bw bl : Int} (hT : TI T) (h : PB X T s sort 24 0 bm bw bl) : Bst X T s sort bm bw bl := by
  rcases h with ⟨h1, h2⟩ | h
  · have ha := alw_some hT s sort
    exact absurd (show lxl (T 9 s).toNat (T 8 s).toNat 24 0 by have := ha.1; unfold lxl; omega) (h2 _ _ ha)
  · exact PBs_end h
theorem Bst_in {X : Nat → RuT} {T : Sig} {s : Nat} {sort : Int} {bm bw bl : Int} (hT : TI T) (h : Bst X T s sort bm bw bl) : (0 ≤ bm ∧ bm ≤ 23) ∧ (0 ≤ bw ∧ bw ≤ 3) ∧ -99 ≤ bl ∧ bl ≤ 1000 := by
  obtain ⟨m0, w0, a1, rfl, rfl, rfl, a5⟩ := h
  obtain ⟨b1, b2, b3, b4⟩ := a1
  have := leftT_in (X := X) (s := s) (TI_S (s := s) (m := (m0 : Nat)) (w := (w0 : Nat)) hT (by omega) (by omega))
  unfold lfT
  exact ⟨by omega, by omega, this⟩
/-- the class's world but for what is best and what a morning changes -/
def FB (σ σ' : Sig) : Prop := (∀ a, a ≠ 0 → ¬ (32 ≤ a ∧ a ≤ 41) → ¬ (81 ≤ a ∧ a < 97 ∧ a % 3 = 0) → σ' a = σ a) ∧ (∀ b, b < 9 → σ' 0 b = σ 0 b)
theorem FB_refl (σ : Sig) : FB σ σ := ⟨fun _ _ _ _ => rfl, fun _ _ => rfl⟩
theorem FB_trans {σ s s' : Sig} (h : FB σ s) (h2 : FB s s') : FB σ s' := ⟨fun a h1 h3 h4 => (h2.1 a h1 h3 h4).trans (h.1 a h1 h3 h4), fun b hb => (h2.2 b hb).trans (h.2 b hb)⟩
theorem FB_Kp {σ s s' : Sig} (h : FB σ s) (hk : Kp 33 41 s s') : FB σ s' := ⟨fun a h1 h2 h3 => (hk a (by omega) h3).trans (h.1 a h1 h2 h3), fun b hb => (congrFun (hk 0 (by omega) (by omega)) b).trans (h.2 b hb)⟩
theorem Kp_FB {σ s : Sig} (hk : Kp 33 41 σ s) : FB σ s := FB_Kp (FB_refl σ) hk
theorem KB_FB {σ s1 : Sig} {s : Nat} (h : KB σ s s1) : FB σ (up (up s1 9 s (σ 9 s)) 8 s (σ 8 s)) := by
  refine ⟨fun a h1 h2 h3 => ?_, fun b hb => by rw [up_row (by omega), up_row (by omega)]; exact h.2.2 b hb⟩
  by_cases h8 : a = 8
  · subst h8
    funext b
    by_cases hb : b = s
    · subst hb; rw [up_s]
    · rw [up_i hb, up_r (by omega)]; exact (h.2.1 b hb).1
  · by_cases h9 : a = 9
    · subst h9
      funext b
      rw [up_r (by omega)]
      by_cases hb : b = s
      · subst hb; rw [up_s]
      · rw [up_i hb]; exact (h.2.1 b hb).2
    · rw [up_row h8, up_row h9]; exact h.1 a h1 h8 h9 (by omega) h3
theorem FB_cT {σ s : Sig} (h : FB σ s) : cT s = cT σ := cT_keep1 (fun a h1 h2 => h.1 a (by omega) (by omega) (by omega))
theorem FB_TI {σ s : Sig} (h : FB σ s) (hT : TI σ) : TI s := TI_keep1 (fun a h1 h2 => h.1 a (by omega) (by omega) (by omega)) hT
theorem FB_CW {X : Nat → RuT} {tc : Nat} {cl : Nat → Nat} {σ s : Sig} (h : FB σ s) (hW : CW X tc cl σ) : CW X tc cl s := by
  refine ⟨FB_TI h hW.1, ⟨hW.2.1.1, fun t ht => ?_⟩, by rw [h.1 1 (by omega) (by omega) (by omega)]; exact hW.2.2⟩
  have := hW.2.1.1
  rw [h.1 (79 + 3 * t) (by omega) (by omega) (by omega), h.1 (79 + 3 * t + 1) (by omega) (by omega) (by omega)]
  exact hW.2.1.2 t ht
theorem cT_up0 {σ : Sig} {i : Nat} {v : Int} : cT (up σ 0 i v) = cT σ := cT_keep1 (fun a h1 h2 => up_row (by omega))
set_option maxHeartbeats 4000000 in
set_option maxRecDepth 100000 in
theorem c_X11_findBest {l : Launch} {G : Gt} {ρ : Nat → Nat} {tc : Nat} {cl : Nat → Nat} {σ : Sig} {X : Nat → RuT} {s : Nat} {q : Int} (hW : CW X tc cl σ) (hs : (s : Int) < σ 1 8) (hq : 0 ≤ q ∧ q ≤ 2) : MX l yX11_findBest cX11_findBest 11 none 6 153 G (NN tc) ρ (shp tc cl) [.ref (ρ 0), .int (iZ (s : Int)), .int (iZ q)] σ (PV (fun σ' => FB σ σ' ∧ Bst X (cT σ) s q (σ' 0 9) (σ' 0 10) (σ' 0 11))) := by
  refine MX_of [some (.ref (ρ 0)), some (.int (iZ (s : Int))), some (.int (iZ q)), none, none, none, none, none, none, none, none] (by decide +kernel) rfl rfl (Nat.le_of_ble_eq_true rfl) ?_
  intro K hKl C T hRng
  have hW0 : CW X tc cl (up σ 0 11 (-100000)) := by
    refine ⟨TI_keep1 (fun a h1 h2 => up_row (by omega)) hW.1, ⟨hW.2.1.1, fun t ht => ?_⟩, hW.2.2⟩
    rw [up_row (show 79 + 3 * t ≠ 0 by omega), up_row (show 79 + 3 * t + 1 ≠ 0 by omega)]
    exact hW.2.1.2 t ht
  subst hKl
  have hT := hW.1
  have h8 := hT.2.2.2.1
  have hqs := hT.2.2.2.2 s
  have hss : (s : Int).toNat = s := Int.toNat_natCast s
  have hTc := TI_cT hT
  obtain ⟨fm, hfm⟩ : ∃ n : Nat, (n : Int) = (if q = 1 then σ 9 s else 0) := ⟨(if q = 1 then σ 9 s else 0).toNat, by split <;> omega⟩
  obtain ⟨lm, hlm⟩ : ∃ n : Nat, (n : Int) = (if q = 1 then σ 9 s else 23) := ⟨(if q = 1 then σ 9 s else 23).toNat, by split <;> omega⟩
  obtain ⟨fw, hfw⟩ : ∃ n : Nat, (n : Int) = (if q = 0 then σ 8 s else 0) := ⟨(if q = 0 then σ 8 s else 0).toNat, by split <;> omega⟩
  obtain ⟨lw, hlw⟩ : ∃ n : Nat, (n : Int) = (if q = 0 then σ 8 s else 3) := ⟨(if q = 0 then σ 8 s else 3).toNat, by split <;> omega⟩
  have hb1 : q = 1 → (fm : Int) = σ 9 s ∧ (lm : Int) = σ 9 s := fun h => by rw [if_pos h] at hfm hlm; exact ⟨hfm, hlm⟩
  have hb2 : q ≠ 1 → fm = 0 ∧ lm = 23 := fun h => by rw [if_neg h] at hfm hlm; omega
  have hb3 : q = 0 → (fw : Int) = σ 8 s ∧ (lw : Int) = σ 8 s := fun h => by rw [if_pos h] at hfw hlw; exact ⟨hfw, hlw⟩
  have hb4 : q ≠ 0 → fw = 0 ∧ lw = 3 := fun h => by rw [if_neg h] at hfw hlw; omega
  have hal : ∀ m w, alw (cT σ) s q m w ↔ (fm ≤ m ∧ m ≤ lm ∧ fw ≤ w ∧ w ≤ lw) := by
    intro m w
    have e9 : (cT σ) 9 s = σ 9 s := rfl
    have e8 : (cT σ) 8 s = σ 8 s := rfl
    unfold alw
    rw [e9, e8]
    omega
  refine x_aload_n 1 C dX11_findBest_0 rfl rfl rfl ?_
  refine x_getr (j := 0) 4 C rfl (lt79 (by decide)) rfl rfl (by decide) inT11 tb_2_173 rfl dX11_findBest_1 rfl ?_
  refine x_getr (j := 11) 7 C rfl (lt79 (by decide)) rfl rfl (by decide) inT9 tb_1_70 rfl dX11_findBest_4 rfl ?_
  refine x_iload_n 8 C dX11_findBest_7 rfl rfl rfl ?_
  refine x_iald 9 C rfl (lt79 (by decide)) dX11_findBest_8 rfl (by omega) (by omega) (fun r8 => ?_)
  rw [hss] at r8 ⊢
  refine x_istore_n3 10 C dX11_findBest_9 rfl rfl ?_
  refine x_aload_n 11 C dX11_findBest_10 rfl rfl rfl ?_
  refine x_getr (j := 0) 14 C rfl (lt79 (by decide)) rfl rfl (by decide) inT11 tb_2_173 rfl dX11_findBest_11 rfl ?_
  refine x_getr (j := 10) 17 C rfl (lt79 (by decide)) rfl rfl (by decide) inT9 tb_1_67 rfl dX11_findBest_14 rfl ?_
  refine x_iload_n 18 C dX11_findBest_17 rfl rfl rfl ?_
  refine x_iald 19 C rfl (lt79 (by decide)) dX11_findBest_18 rfl (by omega) (by omega) (fun r18 => ?_)
  rw [hss] at r18 ⊢
  refine x_istore_4 21 C dX11_findBest_19 rfl rfl ?_
  have J31 : ∀ (u : Int), (u = (fm : Int)) → Ex K G (NN tc) ρ (shp tc cl) 31 [some (.ref (ρ 0)), some (.int (iZ (s : Int))), some (.int (iZ q)), some (.int (iZ (σ 9 s))), some (.int (iZ (σ 8 s))), none, none, none, none, none, none] [.int (iZ u)] σ := by
    intro u hinv
    subst hinv
    refine x_istore_5 33 C dX11_findBest_31 rfl rfl ?_
    have J44 : ∀ (u : Int), (u = (lm : Int)) → Ex K G (NN tc) ρ (shp tc cl) 44 [some (.ref (ρ 0)), some (.int (iZ (s : Int))), some (.int (iZ q)), some (.int (iZ (σ 9 s))), some (.int (iZ (σ 8 s))), some (.int (iZ (fm : Int))), none, none, none, none, none] [.int (iZ u)] σ := by
      intro u hinv
      subst hinv
      refine x_istore_6 46 C dX11_findBest_44 rfl rfl ?_
      have J56 : ∀ (u : Int), (u = (fw : Int)) → Ex K G (NN tc) ρ (shp tc cl) 56 [some (.ref (ρ 0)), some (.int (iZ (s : Int))), some (.int (iZ q)), some (.int (iZ (σ 9 s))), some (.int (iZ (σ 8 s))), some (.int (iZ (fm : Int))), some (.int (iZ (lm : Int))), none, none, none, none] [.int (iZ u)] σ := by
        intro u hinv
        subst hinv
        refine x_istore_7 58 C dX11_findBest_56 rfl rfl ?_
        have J68 : ∀ (u : Int), (u = (lw : Int)) → Ex K G (NN tc) ρ (shp tc cl) 68 [some (.ref (ρ 0)), some (.int (iZ (s : Int))), some (.int (iZ q)), some (.int (iZ (σ 9 s))), some (.int (iZ (σ 8 s))), some (.int (iZ (fm : Int))), some (.int (iZ (lm : Int))), some (.int (iZ (fw : Int))), none, none, none] [.int (iZ u)] σ := by
          intro u hinv
          subst hinv
          refine x_istore_8 70 C dX11_findBest_68 rfl rfl ?_
          refine x_aload_n 71 C dX11_findBest_70 rfl rfl rfl ?_
          refine x_ldcN (z := -100000) 73 C tb_3_185 (by decide) dX11_findBest_71 rfl ?_
          refine x_puti (j := 11) tyX11 76 C rfl (lt79 (by decide)) rfl rfl (by decide) inT11 tyX11_ok nmX11 tb_2_184 rfl rfl rfl dX11_findBest_73 rfl (by omega) ?_
          refine x_aload_n 77 C dX11_findBest_76 rfl rfl rfl ?_
          refine x_getr (j := 7) 80 C rfl (lt79 (by decide)) rfl rfl (by decide) inT11 tb_2_180 rfl dX11_findBest_77 rfl ?_
          refine x_callVv 83 C dX11_findBest_80 rfl (c_X3_lookAll (X := X) hW0) rfl (lt79 (by decide)) rfl tb_3_210 tb_3_211 tb_3_212 tb_1_18 tb_3_213 (na := 0) (by decide +kernel) rfl ⟨by decide, by decide⟩ rfl (Nat.le_of_ble_eq_true rfl) rfl (fun s80 hq80 hR80 => ?_)
          obtain ⟨k1, k2⟩ := hq80
          have hB0 : KB σ s s80 := KB_Kp (KB_up0 (v := -100000) (KB_refl σ s) (show 9 ≤ 11 by omega)) k1 (by omega)
          have hO0 : HO X σ s s80 := fun a _ ha => by
            have := k2 a ha
            rw [cT_up0] at this
            exact this
          have g9 : s80 9 s = σ 9 s := congrFun (k1 9 (by omega) (by omega)) s
          have g8 : s80 8 s = σ 8 s := congrFun (k1 8 (by omega) (by omega)) s
          have hP0 : PB X (cT σ) s q fm fw (s80 0 9) (s80 0 10) (s80 0 11) := by
            refine Or.inl ⟨by rw [k1 0 (by omega) (by omega), up_s], fun m' w' ha hl => ?_⟩
            have := (hal m' w').mp ha
            unfold lxl at hl
            omega
          refine x_iload 85 C dX11_findBest_83 rfl rfl ?_
          refine x_istore_9 87 C dX11_findBest_85 rfl rfl ?_
          have L87 : ∀ (mz : Nat) (m : Nat) (y : Int) (s1 : Sig) (x10 : Option Value), mz = lm + 1 - m → (fm ≤ m ∧ m ≤ lm + 1 ∧ y = m ∧ KB σ s s1 ∧ HO X σ s s1 ∧ (0 ≤ s1 9 s ∧ s1 9 s ≤ 23) ∧ (0 ≤ s1 8 s ∧ s1 8 s ≤ 3) ∧ PB X (cT σ) s q m fw (s1 0 9) (s1 0 10) (s1 0 11)) → Ex K G (NN tc) ρ (shp tc cl) 87 [some (.ref (ρ 0)), some (.int (iZ (s : Int))), some (.int (iZ q)), some (.int (iZ (σ 9 s))), some (.int (iZ (σ 8 s))), some (.int (iZ (fm : Int))), some (.int (iZ (lm : Int))), some (.int (iZ (fw : Int))), some (.int (iZ (lw : Int))), some (.int (iZ y)), x10] [] s1 := by
            intro mz
            induction mz using Nat.strongRecOn with
            | ind mz ih =>
              intro m y s1 x10 hmz hinv
              have ihm := ih
              obtain ⟨hm1, hm2, rfl, hB1, hO1, hi9, hi8, hP1⟩ := hinv
              refine x_iload 89 C dX11_findBest_87 rfl rfl ?_
              refine x_iload 91 C dX11_findBest_89 rfl rfl ?_
              refine x_icmp_gt 126 94 C dX11_findBest_91 rfl rfl (by omega) (by omega) (fun h91 => ?_) (fun h91 => ?_)
              · refine x_aload_n 127 C dX11_findBest_126 rfl rfl rfl ?_
                refine x_getr (j := 0) 130 C rfl (lt79 (by decide)) rfl rfl (by decide) inT11 tb_2_173 rfl dX11_findBest_127 rfl ?_
                refine x_getr (j := 11) 133 C rfl (lt79 (by decide)) rfl rfl (by decide) inT9 tb_1_70 rfl dX11_findBest_130 rfl ?_
                refine x_iload_n 134 C dX11_findBest_133 rfl rfl rfl ?_
                refine x_iload_n 135 C dX11_findBest_134 rfl rfl rfl ?_
                refine x_iast 136 C rfl (lt79 (by decide)) dX11_findBest_135 rfl (by omega) (by omega) (by omega) ?_
                refine x_aload_n 137 C dX11_findBest_136 rfl rfl rfl ?_
                refine x_getr (j := 0) 140 C rfl (lt79 (by decide)) rfl rfl (by decide) inT11 tb_2_173 rfl dX11_findBest_137 rfl ?_
                refine x_getr (j := 10) 143 C rfl (lt79 (by decide)) rfl rfl (by decide) inT9 tb_1_67 rfl dX11_findBest_140 rfl ?_
                refine x_iload_n 144 C dX11_findBest_143 rfl rfl rfl ?_
                refine x_iload 146 C dX11_findBest_144 rfl rfl ?_
                refine x_iast 147 C rfl (lt79 (by decide)) dX11_findBest_146 rfl (by omega) (by omega) (by omega) ?_
                refine x_vret C T dX11_findBest_147 ?_
                rw [hss]
                refine PV_i ⟨KB_FB hB1, ?_⟩
                rw [up_row (show (0 : Nat) ≠ 8 by omega), up_row (show (0 : Nat) ≠ 9 by omega)]
                refine PB_end hTc (PB_move (fun m' w' ha => ?_) hP1)
                have := (hal m' w').mp ha
                unfold lxl
                omega
              refine x_iload 96 C dX11_findBest_94 rfl rfl ?_
              refine x_istore_10 98 C dX11_findBest_96 rfl rfl ?_
              have L98 : ∀ (mz : Nat) (w : Nat) (y : Int) (s1 : Sig), mz = lw + 1 - w → (fw ≤ w ∧ w ≤ lw + 1 ∧ y = w ∧ KB σ s s1 ∧ HO X σ s s1 ∧ (0 ≤ s1 9 s ∧ s1 9 s ≤ 23) ∧ (0 ≤ s1 8 s ∧ s1 8 s ≤ 3) ∧ PB X (cT σ) s q m w (s1 0 9) (s1 0 10) (s1 0 11)) → Ex K G (NN tc) ρ (shp tc cl) 98 [some (.ref (ρ 0)), some (.int (iZ (s : Int))), some (.int (iZ q)), some (.int (iZ (σ 9 s))), some (.int (iZ (σ 8 s))), some (.int (iZ (fm : Int))), some (.int (iZ (lm : Int))), some (.int (iZ (fw : Int))), some (.int (iZ (lw : Int))), some (.int (iZ (m : Int))), some (.int (iZ y))] [] s1 := by
                intro mz
                induction mz using Nat.strongRecOn with
                | ind mz ih =>
                  intro w y s1 hmz hinv
                  obtain ⟨hw1, hw2, rfl, hB1, hO1, hi9, hi8, hP1⟩ := hinv
                  refine x_iload 100 C dX11_findBest_98 rfl rfl ?_
                  refine x_iload 102 C dX11_findBest_100 rfl rfl ?_
                  refine x_icmp_gt 120 105 C dX11_findBest_102 rfl rfl (by omega) (by omega) (fun h102 => ?_) (fun h102 => ?_)
                  · refine x_iinc_9 123 C dX11_findBest_120 rfl rfl ?_
                    refine x_goto 87 C dX11_findBest_123 rfl ?_
                    refine ihm _ (by omega) (m + 1) _ _ _ rfl ⟨by omega, by omega, by omega, hB1, hO1, hi9, hi8, PB_move (fun m' w' ha => ?_) hP1⟩
                    have := (hal m' w').mp ha
                    unfold lxl
                    omega
                  refine x_aload_n 106 C dX11_findBest_105 rfl rfl rfl ?_
                  refine x_iload_n 107 C dX11_findBest_106 rfl rfl rfl ?_
                  refine x_iload 109 C dX11_findBest_107 rfl rfl ?_
                  refine x_iload 111 C dX11_findBest_109 rfl rfl ?_
                  refine x_callVv 114 C dX11_findBest_111 rfl (c_X11_tryBest (X := X) (s := s) (m := (m : Int)) (w := (w : Int)) hW hs hB1 hO1 (by omega) (by omega)) rfl (lt79 (by decide)) rfl tb_3_214 tb_3_216 tb_0_27 tb_1_1 tb_3_217 (na := 3) (by decide +kernel) rfl ⟨by decide, by decide⟩ rfl (Nat.le_of_ble_eq_true rfl) rfl (fun s111 hq111 hR111 => ?_)
                  obtain ⟨j1, j2, j3, j4, j5, j6⟩ := hq111
                  have hlo := leftT_in (X := X) (s := s) (TI_S (s := s) (m := (m : Int)) (w := (w : Int)) hTc (by omega) (by omega))
                  have hP2 : PB X (cT σ) s q m (w + 1) (s111 0 9) (s111 0 10) (s111 0 11) := PB_step hP1 ((hal m w).mpr (by omega)) (show -100000 < leftT X (tS (cT σ) s (m : Int) (w : Int)) s by omega) j5 j6
                  refine x_iinc_10 117 C dX11_findBest_114 rfl rfl ?_
                  refine x_goto 98 C dX11_findBest_117 rfl ?_
                  exact ih _ (by omega) (w + 1) _ _ rfl ⟨by omega, by omega, by omega, j1, j2, by omega, by omega, hP2⟩
              exact L98 _ fw _ _ rfl ⟨by omega, by omega, rfl, hB1, hO1, hi9, hi8, hP1⟩
          exact L87 _ fm _ _ _ rfl ⟨by omega, by omega, rfl, hB0, hO0, by omega, by omega, hP0⟩
        refine x_iload_n 59 C dX11_findBest_58 rfl rfl rfl ?_
        refine x_if_ne 67 62 C dX11_findBest_59 rfl rfl (by omega) (fun h59 => ?_) (fun h59 => ?_)
        · refine x_iconst 68 C dX11_findBest_67 rfl ?_
          exact J68 _ (by omega)
        refine x_iload 64 C dX11_findBest_62 rfl rfl ?_
        refine x_goto 68 C dX11_findBest_64 rfl ?_
        exact J68 _ (by omega)
      refine x_iload_n 47 C dX11_findBest_46 rfl rfl rfl ?_
      refine x_if_ne 55 50 C dX11_findBest_47 rfl rfl (by omega) (fun h47 => ?_) (fun h47 => ?_)
      · refine x_iconst 56 C dX11_findBest_55 rfl ?_
        exact J56 _ (by omega)
      refine x_iload 52 C dX11_findBest_50 rfl rfl ?_
      refine x_goto 56 C dX11_findBest_52 rfl ?_
      exact J56 _ (by omega)
    refine x_iload_n 34 C dX11_findBest_33 rfl rfl rfl ?_
    refine x_iconst 35 C dX11_findBest_34 rfl ?_
    refine x_icmp_ne 42 38 C dX11_findBest_35 rfl rfl (by omega) (by omega) (fun h35 => ?_) (fun h35 => ?_)
    · refine x_bipush 44 C dX11_findBest_42 rfl rfl ?_
      exact J44 _ (by omega)
    refine x_iload_n 39 C dX11_findBest_38 rfl rfl rfl ?_
    refine x_goto 44 C dX11_findBest_39 rfl ?_
    exact J44 _ (by omega)
  refine x_iload_n 22 C dX11_findBest_21 rfl rfl rfl ?_
  refine x_iconst 23 C dX11_findBest_22 rfl ?_
  refine x_icmp_ne 30 26 C dX11_findBest_23 rfl rfl (by omega) (by omega) (fun h23 => ?_) (fun h23 => ?_)
  · refine x_iconst 31 C dX11_findBest_30 rfl ?_
    exact J31 _ (by omega)
  refine x_iload_n 27 C dX11_findBest_26 rfl rfl rfl ?_
  refine x_goto 31 C dX11_findBest_27 rfl ?_
  exact J31 _ (by omega)

set_option maxHeartbeats 4000000 in
set_option maxRecDepth 100000 in
theorem c_X11_best {l : Launch} {G : Gt} {ρ : Nat → Nat} {tc : Nat} {cl : Nat → Nat} {σ : Sig} {X : Nat → RuT} {v q w : Int} (hW : CW X tc cl σ) (hv : -2147483648 ≤ v ∧ v ≤ 2147483647) (hq : -2147483648 ≤ q ∧ q ≤ 2147483647) (hw : -2147483648 ≤ w ∧ w ≤ 2147483647) : MX l yX11_best cX11_best 4 (some .int) 7 183 G (NN tc) ρ (shp tc cl) [.ref (ρ 0), .int (iZ v), .int (iZ q), .int (iZ w)] σ (PI (fun z σ' => FB σ σ' ∧ (((0 ≤ v ∧ v < σ 1 8) ∧ (0 ≤ q ∧ q < 3) ∧ (0 ≤ w ∧ w < 3)) → ∃ bm bw bl, Bst X (cT σ) v.toNat q bm bw bl ∧ z = (if w = 0 then bm else if w = 1 then bw else bl)) ∧ (¬ ((0 ≤ v ∧ v < σ 1 8) ∧ (0 ≤ q ∧ q < 3) ∧ (0 ≤ w ∧ w < 3)) → z = -100000))) := by
  refine MX_of [some (.ref (ρ 0)), some (.int (iZ v)), some (.int (iZ q)), some (.int (iZ w))] (by decide +kernel) rfl rfl (Nat.le_of_ble_eq_true rfl) ?_
  intro K hKl C T hRng
  subst hKl
  have hT := hW.1
  have h3 := hT.2.2.1
  have h8 := hT.2.2.2.1
  have hTc := TI_cT hT
  refine x_aload_n 1 C dX11_best_0 rfl rfl rfl ?_
  refine x_iload_n 2 C dX11_best_1 rfl rfl rfl ?_
  refine x_callVe 5 C dX11_best_2 rfl (c_X11_isSleeper (by omega)) rfl (lt79 (by decide)) rfl tb_3_54 tb_3_56 tb_0_16 tb_1_1 tb_3_57 (na := 1) (by decide +kernel) rfl ⟨by decide, by decide⟩ rfl (Nat.le_of_ble_eq_true rfl) rfl (fun r2 => ?_)
  first
    | refine x_ifb_eq 24 8 C dX11_best_5 rfl rfl (fun h5 => ?_) (fun h5 => ?_)
    | refine x_if_eq 24 8 C dX11_best_5 rfl rfl (by omega) (fun h5 => ?_) (fun h5 => ?_)
  · refine x_ldcN (z := -100000) 26 C tb_3_185 (by decide) dX11_best_24 rfl ?_
    refine x_iret C T dX11_best_26 ?_
    first
      | exact PI_i (by omega) ⟨FB_refl σ, fun h => absurd h (by omega), fun _ => rfl⟩
      | exact PI_i (by omega) ⟨k1, fun _ => ⟨_, _, _, by rw [hss]; exact k2, by first | rw [if_pos (by omega)] | rw [if_neg (by omega), if_pos (by omega)] | rw [if_neg (by omega), if_neg (by omega)]⟩, fun h => absurd (by omega) h⟩
  refine x_iload_n 9 C dX11_best_8 rfl rfl rfl ?_
  refine x_iconst 10 C dX11_best_9 rfl ?_
  refine x_callSe 13 C dX11_best_10 rfl (c_X11_isWithin (by omega) (by omega)) tb_2_214 tb_2_215 tb_1_1 tb_2_216 (na := 2) (by decide +kernel) rfl ⟨by decide, by decide⟩ rfl (Nat.le_of_ble_eq_true rfl) rfl (fun r10 => ?_)
  first
    | refine x_ifb_eq 24 16 C dX11_best_13 rfl rfl (fun h13 => ?_) (fun h13 => ?_)
    | refine x_if_eq 24 16 C dX11_best_13 rfl rfl (by omega) (fun h13 => ?_) (fun h13 => ?_)
  · refine x_ldcN (z := -100000) 26 C tb_3_185 (by decide) dX11_best_24 rfl ?_
    refine x_iret C T dX11_best_26 ?_
    first
      | exact PI_i (by omega) ⟨FB_refl σ, fun h => absurd h (by omega), fun _ => rfl⟩
      | exact PI_i (by omega) ⟨k1, fun _ => ⟨_, _, _, by rw [hss]; exact k2, by first | rw [if_pos (by omega)] | rw [if_neg (by omega), if_pos (by omega)] | rw [if_neg (by omega), if_neg (by omega)]⟩, fun h => absurd (by omega) h⟩
  refine x_iload_n 17 C dX11_best_16 rfl rfl rfl ?_
  refine x_iconst 18 C dX11_best_17 rfl ?_
  refine x_callSe 21 C dX11_best_18 rfl (c_X11_isWithin (by omega) (by omega)) tb_2_214 tb_2_215 tb_1_1 tb_2_216 (na := 2) (by decide +kernel) rfl ⟨by decide, by decide⟩ rfl (Nat.le_of_ble_eq_true rfl) rfl (fun r18 => ?_)
  first
    | refine x_ifb_ne 27 24 C dX11_best_21 rfl rfl (fun h21 => ?_) (fun h21 => ?_)
    | refine x_if_ne 27 24 C dX11_best_21 rfl rfl (by omega) (fun h21 => ?_) (fun h21 => ?_)
  rotate_left
  · refine x_ldcN (z := -100000) 26 C tb_3_185 (by decide) dX11_best_24 rfl ?_
    refine x_iret C T dX11_best_26 ?_
    first
      | exact PI_i (by omega) ⟨FB_refl σ, fun h => absurd h (by omega), fun _ => rfl⟩
      | exact PI_i (by omega) ⟨k1, fun _ => ⟨_, _, _, by rw [hss]; exact k2, by first | rw [if_pos (by omega)] | rw [if_neg (by omega), if_pos (by omega)] | rw [if_neg (by omega), if_neg (by omega)]⟩, fun h => absurd (by omega) h⟩
  obtain ⟨s, rfl⟩ : ∃ s : Nat, v = (s : Int) := ⟨v.toNat, by omega⟩
  have hss : (s : Int).toNat = s := Int.toNat_natCast s
  refine x_aload_n 28 C dX11_best_27 rfl rfl rfl ?_
  refine x_iload_n 29 C dX11_best_28 rfl rfl rfl ?_
  refine x_iload_n 30 C dX11_best_29 rfl rfl rfl ?_
  refine x_callVv 33 C dX11_best_30 rfl (c_X11_findBest (X := X) (s := s) hW (by omega) (by omega)) rfl (lt79 (by decide)) rfl tb_3_206 tb_3_208 tb_0_26 tb_1_1 tb_3_209 (na := 2) (by decide +kernel) rfl ⟨by decide, by decide⟩ rfl (Nat.le_of_ble_eq_true rfl) rfl (fun s30 hq30 hR30 => ?_)
  obtain ⟨k1, k2⟩ := hq30
  have hbi := Bst_in hTc k2
  refine x_iload_n 34 C dX11_best_33 rfl rfl rfl ?_
  refine x_if_ne 42 37 C dX11_best_34 rfl rfl (by omega) (fun h34 => ?_) (fun h34 => ?_)
  rotate_left
  · refine x_aload_n 38 C dX11_best_37 rfl rfl rfl ?_
    refine x_geti (j := 9) 41 C rfl (lt79 (by decide)) rfl rfl (by decide) inT11 tb_2_182 rfl dX11_best_38 rfl (fun r38 => ?_)
    refine x_iret C T dX11_best_41 ?_
    first
      | exact PI_i (by omega) ⟨FB_refl σ, fun h => absurd h (by omega), fun _ => rfl⟩
      | exact PI_i (by omega) ⟨k1, fun _ => ⟨_, _, _, by rw [hss]; exact k2, by first | rw [if_pos (by omega)] | rw [if_neg (by omega), if_pos (by omega)] | rw [if_neg (by omega), if_neg (by omega)]⟩, fun h => absurd (by omega) h⟩
  refine x_iload_n 43 C dX11_best_42 rfl rfl rfl ?_
  refine x_iconst 44 C dX11_best_43 rfl ?_
  refine x_icmp_ne 54 47 C dX11_best_44 rfl rfl (by omega) (by omega) (fun h44 => ?_) (fun h44 => ?_)
  · refine x_aload_n 55 C dX11_best_54 rfl rfl rfl ?_
    refine x_geti (j := 11) 58 C rfl (lt79 (by decide)) rfl rfl (by decide) inT11 tb_2_184 rfl dX11_best_55 rfl (fun r55 => ?_)
    refine x_iret C T dX11_best_58 ?_
    first
      | exact PI_i (by omega) ⟨FB_refl σ, fun h => absurd h (by omega), fun _ => rfl⟩
      | exact PI_i (by omega) ⟨k1, fun _ => ⟨_, _, _, by rw [hss]; exact k2, by first | rw [if_pos (by omega)] | rw [if_neg (by omega), if_pos (by omega)] | rw [if_neg (by omega), if_neg (by omega)]⟩, fun h => absurd (by omega) h⟩
  refine x_aload_n 48 C dX11_best_47 rfl rfl rfl ?_
  refine x_geti (j := 10) 51 C rfl (lt79 (by decide)) rfl rfl (by decide) inT11 tb_2_183 rfl dX11_best_48 rfl (fun r48 => ?_)
  refine x_goto 58 C dX11_best_51 rfl ?_
  refine x_iret C T dX11_best_58 ?_
  first
    | exact PI_i (by omega) ⟨FB_refl σ, fun h => absurd h (by omega), fun _ => rfl⟩
    | exact PI_i (by omega) ⟨k1, fun _ => ⟨_, _, _, by rw [hss]; exact k2, by first | rw [if_pos (by omega)] | rw [if_neg (by omega), if_pos (by omega)] | rw [if_neg (by omega), if_neg (by omega)]⟩, fun h => absurd (by omega) h⟩

set_option maxHeartbeats 4000000 in
set_option maxRecDepth 100000 in
theorem c_X11_turn {l : Launch} {G : Gt} {ρ : Nat → Nat} {tc : Nat} {cl : Nat → Nat} {σ : Sig} {X : Nat → RuT} {v : Int} (hW : CW X tc cl σ) (hv : -2147483648 ≤ v ∧ v ≤ 2147483647) : MX l yX11_turn cX11_turn 2 (some .int) 7 183 G (NN tc) ρ (shp tc cl) [.ref (ρ 0), .int (iZ v)] σ (PI (fun z σ' => ((0 ≤ v ∧ v < σ 1 8) → ∃ bm bw, Bst X (cT σ) v.toNat 2 bm bw z ∧ FB (tS σ v.toNat bm bw) σ') ∧ (¬ (0 ≤ v ∧ v < σ 1 8) → z = -100000 ∧ FB σ σ'))) := by
  refine MX_of [some (.ref (ρ 0)), some (.int (iZ v))] (by decide +kernel) rfl rfl (Nat.le_of_ble_eq_true rfl) ?_
  intro K hKl C T hRng
  subst hKl
  have hT := hW.1
  have h3 := hT.2.2.1
  have h8 := hT.2.2.2.1
  have hTc := TI_cT hT
  refine x_aload_n 1 C dX11_turn_0 rfl rfl rfl ?_
  refine x_iload_n 2 C dX11_turn_1 rfl rfl rfl ?_
  refine x_callVe 5 C dX11_turn_2 rfl (c_X11_isSleeper (by omega)) rfl (lt79 (by decide)) rfl tb_3_54 tb_3_56 tb_0_16 tb_1_1 tb_3_57 (na := 1) (by decide +kernel) rfl ⟨by decide, by decide⟩ rfl (Nat.le_of_ble_eq_true rfl) rfl (fun r2 => ?_)
  first
    | refine x_ifb_ne 11 8 C dX11_turn_5 rfl rfl (fun h5 => ?_) (fun h5 => ?_)
    | refine x_if_ne 11 8 C dX11_turn_5 rfl rfl (by omega) (fun h5 => ?_) (fun h5 => ?_)
  rotate_left
  · refine x_ldcN (z := -100000) 10 C tb_3_185 (by decide) dX11_turn_8 rfl ?_
    refine x_iret C T dX11_turn_10 ?_
    first
      | exact PI_i (by omega) ⟨fun h => absurd h (by omega), fun _ => ⟨rfl, FB_refl σ⟩⟩
      | (simp only [up_r (show (0 : Nat) ≠ 8 by decide), up_r (show (0 : Nat) ≠ 9 by decide), hss]
         refine PI_i (by omega) ⟨fun _ => ⟨s14 0 9, s14 0 10, k2, ?_⟩, fun h => absurd (by omega) h⟩
         unfold tS
         refine ⟨fun a h1 h2 h3 => ?_, fun b hb => ?_⟩
         · by_cases a8 : a = 8
           · subst a8
             funext b
             by_cases hb : b = s
             · subst hb; rw [up_s, up_s]
             · simp only [up_i hb, up_r (show (8 : Nat) ≠ 9 by decide)]; exact congrFun (k1.1 8 h1 h2 h3) b
           · rw [up_row a8, up_row a8]
             by_cases a9 : a = 9
             · subst a9
               funext b
               by_cases hb : b = s
               · subst hb; rw [up_s, up_s]
               · rw [up_i hb, up_i hb]; exact congrFun (k1.1 9 h1 h2 h3) b
             · rw [up_row a9, up_row a9]; exact k1.1 a h1 h2 h3
         · rw [up_r (by omega), up_r (by omega), up_r (by omega), up_r (by omega)]; exact k1.2 b hb)
  obtain ⟨s, rfl⟩ : ∃ s : Nat, v = (s : Int) := ⟨v.toNat, by omega⟩
  have hss : (s : Int).toNat = s := Int.toNat_natCast s
  refine x_aload_n 12 C dX11_turn_11 rfl rfl rfl ?_
  refine x_iload_n 13 C dX11_turn_12 rfl rfl rfl ?_
  refine x_iconst 14 C dX11_turn_13 rfl ?_
  refine x_callVv 17 C dX11_turn_14 rfl (c_X11_findBest (X := X) (s := s) hW (by omega) (by omega)) rfl (lt79 (by decide)) rfl tb_3_206 tb_3_208 tb_0_26 tb_1_1 tb_3_209 (na := 2) (by decide +kernel) rfl ⟨by decide, by decide⟩ rfl (Nat.le_of_ble_eq_true rfl) rfl (fun s14 hq14 hR14 => ?_)
  obtain ⟨k1, k2⟩ := hq14
  have hbi := Bst_in hTc k2
  refine x_aload_n 18 C dX11_turn_17 rfl rfl rfl ?_
  refine x_getr (j := 0) 21 C rfl (lt79 (by decide)) rfl rfl (by decide) inT11 tb_2_173 rfl dX11_turn_18 rfl ?_
  refine x_getr (j := 11) 24 C rfl (lt79 (by decide)) rfl rfl (by decide) inT9 tb_1_70 rfl dX11_turn_21 rfl ?_
  refine x_iload_n 25 C dX11_turn_24 rfl rfl rfl ?_
  refine x_aload_n 26 C dX11_turn_25 rfl rfl rfl ?_
  refine x_geti (j := 9) 29 C rfl (lt79 (by decide)) rfl rfl (by decide) inT11 tb_2_182 rfl dX11_turn_26 rfl (fun r26 => ?_)
  refine x_iast 30 C rfl (lt79 (by decide)) dX11_turn_29 rfl (by omega) (by omega) (by omega) ?_
  refine x_aload_n 31 C dX11_turn_30 rfl rfl rfl ?_
  refine x_getr (j := 0) 34 C rfl (lt79 (by decide)) rfl rfl (by decide) inT11 tb_2_173 rfl dX11_turn_31 rfl ?_
  refine x_getr (j := 10) 37 C rfl (lt79 (by decide)) rfl rfl (by decide) inT9 tb_1_67 rfl dX11_turn_34 rfl ?_
  refine x_iload_n 38 C dX11_turn_37 rfl rfl rfl ?_
  refine x_aload_n 39 C dX11_turn_38 rfl rfl rfl ?_
  refine x_geti (j := 10) 42 C rfl (lt79 (by decide)) rfl rfl (by decide) inT11 tb_2_183 rfl dX11_turn_39 rfl (fun r39 => ?_)
  refine x_iast 43 C rfl (lt79 (by decide)) dX11_turn_42 rfl (by omega) (by omega) (by rw [up_r (by omega)]; omega) ?_
  refine x_aload_n 44 C dX11_turn_43 rfl rfl rfl ?_
  refine x_geti (j := 11) 47 C rfl (lt79 (by decide)) rfl rfl (by decide) inT11 tb_2_184 rfl dX11_turn_44 rfl (fun r44 => ?_)
  refine x_iret C T dX11_turn_47 ?_
  first
    | exact PI_i (by omega) ⟨fun h => absurd h (by omega), fun _ => ⟨rfl, FB_refl σ⟩⟩
    | (simp only [up_r (show (0 : Nat) ≠ 8 by decide), up_r (show (0 : Nat) ≠ 9 by decide), hss]
       refine PI_i (by omega) ⟨fun _ => ⟨s14 0 9, s14 0 10, k2, ?_⟩, fun h => absurd (by omega) h⟩
       unfold tS
       refine ⟨fun a h1 h2 h3 => ?_, fun b hb => ?_⟩
       · by_cases a8 : a = 8
         · subst a8
           funext b
           by_cases hb : b = s
           · subst hb; rw [up_s, up_s]
           · simp only [up_i hb, up_r (show (8 : Nat) ≠ 9 by decide)]; exact congrFun (k1.1 8 h1 h2 h3) b
         · rw [up_row a8, up_row a8]
           by_cases a9 : a = 9
           · subst a9
             funext b
             by_cases hb : b = s
             · subst hb; rw [up_s, up_s]
             · rw [up_i hb, up_i hb]; exact congrFun (k1.1 9 h1 h2 h3) b
           · rw [up_row a9, up_row a9]; exact k1.1 a h1 h2 h3
       · rw [up_r (by omega), up_r (by omega), up_r (by omega), up_r (by omega)]; exact k1.2 b hb)

/-- nobody is better off by another minute, another way -/
def Rst (X : Nat → RuT) (T : Sig) : Prop := ∀ s, s < slN T → ∀ bm bw bl, Bst X T s 2 bm bw bl → bl ≤ leftT X T s
set_option maxHeartbeats 4000000 in
set_option maxRecDepth 100000 in
theorem c_X11_rest {l : Launch} {G : Gt} {ρ : Nat → Nat} {tc : Nat} {cl : Nat → Nat} {σ : Sig} {X : Nat → RuT} (hW : CW X tc cl σ) : MX l yX11_rest cX11_rest 3 (some .int) 7 183 G (NN tc) ρ (shp tc cl) [.ref (ρ 0)] σ (PI (fun z σ' => FB σ σ' ∧ ((z = 1 ∧ Rst X (cT σ)) ∨ (z = 0 ∧ ¬ Rst X (cT σ))))) := by
  refine MX_of [some (.ref (ρ 0)), none, none] (by decide +kernel) rfl rfl (Nat.le_of_ble_eq_true rfl) ?_
  intro K hKl C T hRng
  subst hKl
  have hT := hW.1
  have h3 := hT.2.2.1
  have h8 := hT.2.2.2.1
  have hTc := TI_cT hT
  refine x_iconst 1 C dX11_rest_0 rfl ?_
  refine x_istore_n1 2 C dX11_rest_1 rfl rfl ?_
  have L2 : ∀ (mz : Nat) (s : Nat) (y : Int) (s1 : Sig) (x2 : Option Value), mz = 6 - s → ((s : Int) ≤ σ 1 8 ∧ y = s ∧ FB σ s1 ∧ ∀ q, q < s → ∀ bm bw bl, Bst X (cT σ) q 2 bm bw bl → bl ≤ leftT X (cT σ) q) → Ex K G (NN tc) ρ (shp tc cl) 2 [some (.ref (ρ 0)), some (.int (iZ y)), x2] [] s1 := by
    intro mz
    induction mz using Nat.strongRecOn with
    | ind mz ih =>
      intro s y s1 x2 hmz hinv
      obtain ⟨hs, rfl, hF1, hd⟩ := hinv
      have hW1 := FB_CW hF1 hW
      have ec1 := FB_cT hF1
      have e18 : s1 1 8 = σ 1 8 := congrFun (hF1.1 1 (by omega) (by omega) (by omega)) 8
      refine x_iload_n 3 C dX11_rest_2 rfl rfl rfl ?_
      refine x_aload_n 4 C dX11_rest_3 rfl rfl rfl ?_
      refine x_getr (j := 0) 7 C rfl (lt79 (by decide)) rfl rfl (by decide) inT11 tb_2_173 rfl dX11_rest_4 rfl ?_
      refine x_geti (j := 8) 10 C rfl (lt79 (by decide)) rfl rfl (by decide) inT9 tb_1_61 rfl dX11_rest_7 rfl (fun r7 => ?_)
      refine x_icmp_ge 51 13 C dX11_rest_10 rfl rfl (by omega) (by omega) (fun h10 => ?_) (fun h10 => ?_)
      · refine x_iconst 52 C dX11_rest_51 rfl ?_
        refine x_iret C T dX11_rest_52 ?_
        first
          | (refine PI_i (by omega) ⟨hF4, Or.inr ⟨rfl, fun h => ?_⟩⟩
             have := h s (by rw [slN_T]; omega) _ _ _ k6
             omega)
          | exact PI_i (by omega) ⟨hF1, Or.inl ⟨rfl, fun q hq => hd q (by rw [slN_T] at hq; omega)⟩⟩
      refine x_aload_n 14 C dX11_rest_13 rfl rfl rfl ?_
      refine x_getr (j := 7) 17 C rfl (lt79 (by decide)) rfl rfl (by decide) inT11 tb_2_180 rfl dX11_rest_14 rfl ?_
      refine x_callVv 20 C dX11_rest_17 rfl (c_X3_dawn hW1) rfl (lt79 (by decide)) rfl tb_3_156 tb_3_157 tb_3_158 tb_1_18 tb_3_159 (na := 0) (by decide +kernel) rfl ⟨by decide, by decide⟩ rfl (Nat.le_of_ble_eq_true rfl) rfl (fun s17 hq17 hR17 => ?_)
      obtain ⟨k1, k2, k3⟩ := hq17
      have hF2 := FB_Kp hF1 k1
      have hW2 := FB_CW hF2 hW
      refine x_aload_n 21 C dX11_rest_20 rfl rfl rfl ?_
      refine x_getr (j := 7) 24 C rfl (lt79 (by decide)) rfl rfl (by decide) inT11 tb_2_180 rfl dX11_rest_21 rfl ?_
      refine x_iload_n 25 C dX11_rest_24 rfl rfl rfl ?_
      refine x_callVi 28 C dX11_rest_25 rfl (c_X3_leftOf (X := X) (s := s) hW2 (by rw [congrFun (k1 1 (by omega) (by omega)) 8]; omega) (HD_in hW1.1 k3 (by omega)).1) rfl (lt79 (by decide)) rfl tb_3_201 tb_3_191 tb_3_192 tb_1_18 tb_3_193 (na := 1) (by decide +kernel) rfl ⟨by decide, by decide⟩ rfl (Nat.le_of_ble_eq_true rfl) rfl (fun z25 s25 hz25 hq25 hR25 => ?_)
      obtain ⟨k4, k5⟩ := hq25
      rw [LFT k3 (k1 9 (by omega) (by omega)) (congrFun (k1 1 (by omega) (by omega)) 2) (by omega), ec1] at k5
      have hF3 := FB_Kp hF2 (Kp_wide (lo' := 33) (hi' := 41) k4 (by omega) (by omega))
      have hW3 := FB_CW hF3 hW
      have e183 : s25 1 8 = σ 1 8 := congrFun (hF3.1 1 (by omega) (by omega) (by omega)) 8
      refine x_istore_n2 29 C dX11_rest_28 rfl rfl ?_
      refine x_aload_n 30 C dX11_rest_29 rfl rfl rfl ?_
      refine x_iload_n 31 C dX11_rest_30 rfl rfl rfl ?_
      refine x_iconst 32 C dX11_rest_31 rfl ?_
      refine x_callVv 35 C dX11_rest_32 rfl (c_X11_findBest (X := X) (s := s) hW3 (by omega) (by omega)) rfl (lt79 (by decide)) rfl tb_3_206 tb_3_208 tb_0_26 tb_1_1 tb_3_209 (na := 2) (by decide +kernel) rfl ⟨by decide, by decide⟩ rfl (Nat.le_of_ble_eq_true rfl) rfl (fun s32 hq32 hR32 => ?_)
      obtain ⟨kk, k6⟩ := hq32
      rw [FB_cT hF3] at k6
      have hF4 := FB_trans hF3 kk
      refine x_aload_n 36 C dX11_rest_35 rfl rfl rfl ?_
      refine x_geti (j := 11) 39 C rfl (lt79 (by decide)) rfl rfl (by decide) inT11 tb_2_184 rfl dX11_rest_36 rfl (fun r36 => ?_)
      refine x_iload_n 40 C dX11_rest_39 rfl rfl rfl ?_
      refine x_icmp_le 45 43 C dX11_rest_40 rfl rfl (by omega) (by omega) (fun h40 => ?_) (fun h40 => ?_)
      · refine x_iinc_1 48 C dX11_rest_45 rfl rfl ?_
        refine x_goto 2 C dX11_rest_48 rfl ?_
        refine ih _ (by omega) (s + 1) _ _ _ rfl ⟨by omega, by omega, hF4, fun q hq bm bw bl hb => ?_⟩
        by_cases hqs : q = s
        · subst hqs
          obtain ⟨e1, e2, e3⟩ := Bst_uni hb k6
          omega
        · exact hd q (by omega) bm bw bl hb
      refine x_iconst 44 C dX11_rest_43 rfl ?_
      refine x_iret C T dX11_rest_44 ?_
      first
        | (refine PI_i (by omega) ⟨hF4, Or.inr ⟨rfl, fun h => ?_⟩⟩
           have := h s (by rw [slN_T]; omega) _ _ _ k6
           omega)
        | exact PI_i (by omega) ⟨hF1, Or.inl ⟨rfl, fun q hq => hd q (by rw [slN_T] at hq; omega)⟩⟩
  exact L2 _ 0 _ _ _ rfl ⟨by omega, rfl, FB_refl σ, fun q hq => absurd hq (by omega)⟩
