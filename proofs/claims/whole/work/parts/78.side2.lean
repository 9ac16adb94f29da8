/-! copy, image, back, turn, text, in both halves -/
section RM3
variable {X : Nat → RuT} {tc : Nat} {cl : Nat → Nat} {σ σ1 σ2 : Sig}
/-- the model's half, while the class's sheets, tape, image change -/
theorem mod_row (hR : RR X tc cl σ) (k : ∀ a, (51 ≤ a ∧ a ≤ 78) ∨ a = 1064 → σ1 a = σ a) : MW X tc σ1 ∧ MS σ1 ∧ σ1 51 3 = (tc : Int) ∧ mT σ1 = mT σ := mod_keep hR (fun a b h => congrFun (k a h) b)
theorem copy_keep {s i t j n z : Int} (h1 : QX_copy σ s i t j n z σ1) : ∀ a, ¬ (47 ≤ a ∧ a ≤ 50) → σ1 a = σ a := by
  intro a ha
  obtain ⟨q1, q2, q3, q4, q5⟩ := h1
  by_cases c1 : (0 ≤ s ∧ s < 4) ∧ 0 ≤ t ∧ t < 4
  · by_cases c2 : σ (43 + s.toNat) 1 = -1 ∨ σ (43 + t.toNat) 1 = -1
    · rw [(q2 c1 c2).2]
    · by_cases c3 : σ (43 + s.toNat) 1 = σ (43 + t.toNat) 1
      · by_cases c4 : okC σ s i t j n
        · rw [(q5 c1 c2 c3 c4).2]
          exact funext fun b => if_neg (by omega)
        · rw [(q4 c1 c2 c3 c4).2]
      · rw [(q3 c1 c2 c3).2]
  · rw [(q1 c1).2]
theorem R_copy (hR : RR X tc cl σ) {s i t j n z z' : Int} (h1 : QX_copy σ s i t j n z σ1) (h2 : QM_copy σ1 s i t j n z' σ2) : z = z' ∧ RR X tc cl σ2 := by
  have kk := copy_keep h1
  have hx := hR.2.2.2.2.2.1
  obtain ⟨q1, q2, q3, q4, q5⟩ := h1
  obtain ⟨p1, p2, p3, p4, p5⟩ := h2
  rw [kk 75 (by omega)] at p2 p3 p4 p5
  rw [kk 76 (by omega)] at p3 p4 p5
  unfold okM at p4 p5
  rw [kk 77 (by omega)] at p4 p5
  unfold okC at q4 q5
  by_cases c1 : (0 ≤ s ∧ s < 4) ∧ 0 ≤ t ∧ t < 4
  · have hs := hx.2.2 s.toNat (by omega)
    have ht := hx.2.2 t.toNat (by omega)
    have ms := hx.2.1 s.toNat (by omega)
    have mt := hx.2.1 t.toNat (by omega)
    by_cases c2 : σ (43 + s.toNat) 1 = -1 ∨ σ (43 + t.toNat) 1 = -1
    · have c2' : σ 75 s.toNat = 0 ∨ σ 75 t.toNat = 0 := by
        unfold ShR at hs ht
        omega
      obtain ⟨e1, e2⟩ := q2 c1 c2
      obtain ⟨f1, f2⟩ := p2 c1 c2'
      subst e1 e2 f1 f2
      exact ⟨rfl, hR⟩
    · obtain ⟨hs1, hs2, hs3, hs4, hs5⟩ : σ (43 + s.toNat) 1 ≠ -1 ∧ σ 75 s.toNat = 1 ∧ σ (43 + s.toNat) 1 = σ 76 s.toNat ∧ σ (43 + s.toNat) 2 = σ 77 s.toNat ∧ ∀ q : Nat, (q : Int) < σ 77 s.toNat → σ (47 + s.toNat) q = σ 78 (40 * s.toNat + q) := by
        rcases hs with h | h
        · exact absurd (Or.inl h.1) c2
        · exact h
      obtain ⟨ht1, ht2, ht3, ht4, ht5⟩ : σ (43 + t.toNat) 1 ≠ -1 ∧ σ 75 t.toNat = 1 ∧ σ (43 + t.toNat) 1 = σ 76 t.toNat ∧ σ (43 + t.toNat) 2 = σ 77 t.toNat ∧ ∀ q : Nat, (q : Int) < σ 77 t.toNat → σ (47 + t.toNat) q = σ 78 (40 * t.toNat + q) := by
        rcases ht with h | h
        · exact absurd (Or.inr h.1) c2
        · exact h
      have c2' : ¬ (σ 75 s.toNat = 0 ∨ σ 75 t.toNat = 0) := by omega
      by_cases c3 : σ (43 + s.toNat) 1 = σ (43 + t.toNat) 1
      · have c3' : σ 76 s.toNat = σ 76 t.toNat := by omega
        by_cases c4 : 0 ≤ i ∧ 0 ≤ n ∧ i ≤ σ (43 + s.toNat) 2 - n ∧ 0 ≤ j ∧ j ≤ σ (43 + t.toNat) 2 - n
        · obtain ⟨e1, e2⟩ := q5 c1 c2 c3 c4
          obtain ⟨f1, f2⟩ := p5 c1 c2' c3' (by omega)
          refine ⟨by rw [e1, f1], ?_⟩
          have g : ∀ a b, σ2 a b = if a = 78 ∧ 40 * t.toNat + j.toNat ≤ b ∧ b < 40 * t.toNat + j.toNat + n.toNat then σ 78 (40 * s.toNat + i.toNat + (b - (40 * t.toNat + j.toNat))) else if a = 47 + t.toNat ∧ j.toNat ≤ b ∧ b < j.toNat + n.toNat then σ (47 + s.toNat) (i.toNat + (b - j.toNat)) else σ a b := fun a b => by
            rw [f2]
            unfold copyM
            rw [kk 78 (by omega), e2]
            rfl
          have gk : ∀ a, ¬ (47 ≤ a ∧ a ≤ 50) → a ≠ 78 → σ2 a = σ a := fun a h1 h2 => funext fun b => by rw [g, if_neg (by omega), if_neg (by omega)]
          refine RR_sheets hR (fun a h1 h2 => gk a (by omega) (by omega)) ⟨fun k hk => ?_, ?_, fun k hk => ?_⟩
          · rw [gk (43 + k) (by omega) (by omega)]; exact hx.1 k hk
          · have h := hx.2.1
            unfold MS at h ⊢
            rw [gk 75 (by omega) (by omega), gk 76 (by omega) (by omega), gk 77 (by omega) (by omega)]
            exact h
          · have h := hx.2.2 k hk
            have mk := hx.2.1 k hk
            unfold ShR at h ⊢
            rw [gk (43 + k) (by omega) (by omega), gk 75 (by omega) (by omega), gk 76 (by omega) (by omega), gk 77 (by omega) (by omega)]
            rcases h with h | ⟨k1, k2, k3, k4, k5⟩
            · exact Or.inl h
            · have k6 := mk.2.2 k2
              refine Or.inr ⟨k1, k2, k3, k4, fun q hq => ?_⟩
              rw [g (47 + k) q, g 78 (40 * k + q), if_neg (by omega)]
              by_cases hkt : k = t.toNat
              · subst hkt
                by_cases hin : j.toNat ≤ q ∧ q < j.toNat + n.toNat
                · rw [if_pos ⟨rfl, hin⟩, if_pos (by omega), show 40 * s.toNat + i.toNat + (40 * t.toNat + q - (40 * t.toNat + j.toNat)) = 40 * s.toNat + (i.toNat + (q - j.toNat)) by omega]
                  exact hs5 _ (by omega)
                · rw [if_neg (by omega), if_neg (by omega), if_neg (by omega)]
                  exact ht5 q hq
              · rw [if_neg (by omega), if_neg (by omega), if_neg (by omega)]
                exact k5 q hq
        · obtain ⟨e1, e2⟩ := q4 c1 c2 c3 c4
          obtain ⟨f1, f2⟩ := p4 c1 c2' c3' (by omega)
          subst e1 e2 f1 f2
          exact ⟨rfl, hR⟩
      · obtain ⟨e1, e2⟩ := q3 c1 c2 c3
        obtain ⟨f1, f2⟩ := p3 c1 c2' (by omega)
        subst e1 e2 f1 f2
        exact ⟨rfl, hR⟩
  · obtain ⟨e1, e2⟩ := q1 c1
    obtain ⟨f1, f2⟩ := p1 c1
    subst e1 e2 f1 f2
    exact ⟨rfl, hR⟩
theorem town_eq (hR : RR X tc cl σ) : σ 1 1 = σ 51 8 ∧ σ 1 2 = σ 51 4 ∧ σ 1 3 = σ 51 13 ∧ σ 1 8 = σ 51 18 ∧ (∀ b, σ 2 b = σ 55 b ∧ σ 3 b = σ 57 b ∧ σ 4 b = σ 58 b ∧ σ 5 b = σ 59 b ∧ σ 7 b = σ 60 b ∧ σ 8 b = σ 61 b ∧ σ 9 b = σ 62 b) ∧ (∀ b : Nat, (b : Int) < σ 1 3 → σ 6 b = σ 56 b) ∧ ∀ b : Nat, (b : Int) < σ 1 8 → σ 10 b = σ 63 b := by
  have h := hR.2.2.1
  have h3 : σ 1 3 = σ 51 13 := congrFun (congrFun h 1) 3
  have h8 : σ 1 8 = σ 51 18 := congrFun (congrFun h 1) 8
  refine ⟨congrFun (congrFun h 1) 1, congrFun (congrFun h 1) 2, h3, h8, fun b => ⟨congrFun (congrFun h 2) b, congrFun (congrFun h 3) b, congrFun (congrFun h 4) b, congrFun (congrFun h 5) b, congrFun (congrFun h 7) b, congrFun (congrFun h 8) b, congrFun (congrFun h 9) b⟩, fun b hb => ?_, fun b hb => ?_⟩
  · have e := congrFun (congrFun h 6) b
    rwa [cT_6 hb, cM_6 (by omega)] at e
  · have e := congrFun (congrFun h 10) b
    rwa [cT_10 hb, cM_10 (by omega)] at e
theorem image_keep {z : Int} (h1 : z = σ 1 8 ∧ σ1 = up (cpW 11 1 σ 8) 0 2 1) : ∀ a b, ¬ (11 ≤ a ∧ a ≤ 20) → ¬ (a = 0 ∧ b = 2) → σ1 a b = σ a b := by
  intro a b h h0
  rw [h1.2, up_at2, if_neg h0]
  unfold cpW
  rw [if_neg (by omega), if_neg (by omega), if_neg (by omega)]
theorem image_row {z : Int} (h1 : z = σ 1 8 ∧ σ1 = up (cpW 11 1 σ 8) 0 2 1) : ∀ a, 21 ≤ a → σ1 a = σ a := fun a ha => funext fun b => image_keep h1 a b (by omega) (by omega)
theorem R_image (hR : RR X tc cl σ) {z z' : Int} (h1 : z = σ 1 8 ∧ σ1 = up (cpW 11 1 σ 8) 0 2 1) (h2 : z' = σ1 51 18 ∧ IMG σ1 σ2) : z = z' ∧ RR X tc cl σ2 := by
  have k1 := image_keep h1
  have kr := image_row h1
  obtain ⟨g1, g2, g3, g4, g5, g6, g7⟩ := town_eq hR
  obtain ⟨t1, t2, t3, t4, t5⟩ := hR.1.1
  obtain ⟨e1, e2⟩ := h1
  obtain ⟨f1, m1, m2, m3, m4, m5, m6, m7, m8⟩ := h2
  rw [kr 51 (by omega)] at f1 m5 m6 m7 m8
  refine ⟨by rw [e1, f1]; exact g4, ?_⟩
  have w1 : ∀ b, (b = 1 ∨ b = 2 ∨ b = 3 ∨ b = 8) → σ1 11 b = σ 1 b := fun b hb => by
    rw [e2, up_r (by decide)]; unfold cpW
    rw [if_neg (by omega), if_neg (by omega), if_pos ⟨rfl, hb⟩]
  have w2 : ∀ b, b < 36 → σ1 12 b = σ 2 b := fun b hb => by
    rw [e2, up_r (by decide)]; unfold cpW
    rw [if_pos ⟨rfl, hb⟩]
  have w3 : ∀ a b, 13 ≤ a → a ≤ 16 → b < 6 → σ1 a b = σ (a - 11 + 1) b := fun a b h1 h2 hb => by
    rw [e2, up_r (by omega)]; unfold cpW
    rw [if_neg (by omega), if_pos ⟨by omega, by omega, by rw [if_pos (by omega)]; exact hb⟩]
  have w4 : ∀ a b, 17 ≤ a → a ≤ 20 → b < 5 → σ1 a b = σ (a - 11 + 1) b := fun a b h1 h2 hb => by
    rw [e2, up_r (by omega)]; unfold cpW
    rw [if_neg (by omega), if_pos ⟨by omega, by omega, by rw [if_neg (by omega)]; exact hb⟩]
  have n1 : ∀ a, a ≤ 50 → σ2 a = σ1 a := fun a ha => funext fun b => m1 a b (by omega) (by omega) (by omega) (by omega)
  have n2 : ∀ a, a ≤ 50 → ¬ (11 ≤ a ∧ a ≤ 20) → a ≠ 0 → σ2 a = σ a := fun a h1 h2 h3 => by rw [n1 a h1]; exact funext fun b => k1 a b h2 (by omega)
  have n3 : ∀ a, 52 ≤ a → a ≠ 72 → a ≠ 73 → a ≠ 74 → σ2 a = σ a := fun a h1 h2 h3 h4 => by rw [← kr a (by omega)]; exact funext fun b => m1 a b h2 h3 h4 (by omega)
  have n4 : ∀ b, b < 48 → σ2 51 b = σ 51 b := fun b hb => by rw [m1 51 b (by omega) (by omega) (by omega) (by omega), kr 51 (by omega)]
  refine RR_side hR (fun a ha => ?_) (fun b hb => n4 b (by omega)) ?_ (TPR_keep hR.2.2.2.2.1 (by rw [n2 28 (by omega) (by omega) (by omega)]) (n4 6 (by omega)) (n2 29 (by omega) (by omega) (by omega)) (n3 54 (by omega) (by omega) (by omega) (by omega))) (SHS_keep hR.2.2.2.2.2.1 (fun a ha => ?_)) (Or.inr ⟨?_, ?_⟩)
  · by_cases hh : a ≤ 50
    · exact n2 a hh (by omega) (by omega)
    · exact n3 a (by omega) (by omega) (by omega) (by omega)
  · rw [n1 0 (by omega)]; exact k1 0 6 (by omega) (by omega)
  · by_cases hh : a ≤ 50
    · exact n2 a hh (by omega) (by omega)
    · exact n3 a (by omega) (by omega) (by omega) (by omega)
  · rw [n1 0 (by omega), e2, up_s]; decide
  · unfold IMr
    rw [n1 11 (by omega), n1 12 (by omega), n1 13 (by omega), n1 14 (by omega), n1 15 (by omega), n1 16 (by omega), n1 17 (by omega), n1 18 (by omega), n1 19 (by omega), n1 20 (by omega), n2 1 (by omega) (by omega) (by omega), n2 6 (by omega) (by omega) (by omega), n2 10 (by omega) (by omega) (by omega), m5, m6, m7, m8, w1 8 (by omega), w1 3 (by omega), w1 1 (by omega), w1 2 (by omega)]
    refine ⟨⟨g4.symm, g3.symm, g1.symm, g2.symm⟩, ⟨t4.1, Int.le_refl _, t3.1, Int.le_refl _, t1.1, t1.2, t2.1, hR.1.2.2⟩, fun b hb => ?_, fun b hb => ?_, fun b hb => ?_, fun b hb => w3 16 b (by omega) (by omega) (by omega), fun b hb => w4 20 b (by omega) (by omega) (by omega)⟩
    · rw [m2 b hb, kr 55 (by omega), w2 b hb]
      exact ⟨(g5 b).1.symm, (t5 b).1⟩
    · have u1 := w3 13 b (by omega) (by omega) hb
      have u2 := w3 14 b (by omega) (by omega) hb
      have u3 := w3 15 b (by omega) (by omega) hb
      have u4 := w3 16 b (by omega) (by omega) hb
      rw [(m3 b hb).1, (m3 b hb).2.1, (m3 b hb).2.2, kr 57 (by omega), kr 58 (by omega), kr 59 (by omega), u1, u2, u3, u4]
      exact ⟨⟨(g5 b).2.1.symm, (t5 b).2.1⟩, ⟨(g5 b).2.2.1.symm, (t5 b).2.2.1⟩, ⟨(g5 b).2.2.2.1.symm, (t5 b).2.2.2.1⟩, (t5 b).2.2.2.2.1⟩
    · have u1 := w4 17 b (by omega) (by omega) hb
      have u2 := w4 18 b (by omega) (by omega) hb
      have u3 := w4 19 b (by omega) (by omega) hb
      have u4 := w4 20 b (by omega) (by omega) hb
      rw [(m4 b hb).1, (m4 b hb).2.1, (m4 b hb).2.2, kr 60 (by omega), kr 61 (by omega), kr 62 (by omega), u1, u2, u3, u4]
      exact ⟨⟨(g5 b).2.2.2.2.1.symm, (t5 b).2.2.2.2.2.1⟩, ⟨(g5 b).2.2.2.2.2.1.symm, (t5 b).2.2.2.2.2.2.1⟩, ⟨(g5 b).2.2.2.2.2.2.symm, (t5 b).2.2.2.2.2.2.2.1⟩, (t5 b).2.2.2.2.2.2.2.2⟩
theorem back_keep {z : Int} (h1 : (σ 0 2 = 0 → z = -3 ∧ σ1 = σ) ∧ (σ 0 2 ≠ 0 → z = σ 11 8 ∧ σ1 = cpW 1 11 σ 8)) : ∀ a b, ¬ (1 ≤ a ∧ a ≤ 10) → σ1 a b = σ a b := by
  intro a b h
  by_cases h0 : σ 0 2 = 0
  · rw [(h1.1 h0).2]
  · rw [(h1.2 h0).2]
    unfold cpW
    rw [if_neg (by omega), if_neg (by omega), if_neg (by omega)]
theorem back_k (hR : RR X tc cl σ) : σ 51 48 = -1 ∨ (0 ≤ σ 51 48 ∧ σ 51 48 ≤ 5) := by
  have t4 := hR.1.1.2.2.2.1
  rcases hR.2.2.2.2.2.2 with h | h
  · exact Or.inl h.2
  · have h1 := h.2.1.1
    have h2 := h.2.2.1
    omega
theorem R_back (hR : RR X tc cl σ) {z z' : Int} (h1 : (σ 0 2 = 0 → z = -3 ∧ σ1 = σ) ∧ (σ 0 2 ≠ 0 → z = σ 11 8 ∧ σ1 = cpW 1 11 σ 8)) (h2 : (σ1 51 48 = -1 → z' = -3 ∧ σ2 = σ1) ∧ (σ1 51 48 ≠ -1 → z' = σ1 51 48 ∧ BCK σ1 σ2)) : z = z' ∧ RR X tc cl σ2 := by
  have k1 := back_keep h1
  have kr : ∀ a, ¬ (1 ≤ a ∧ a ≤ 10) → σ1 a = σ a := fun a h => funext fun b => k1 a b h
  rw [k1 51 48 (by omega)] at h2
  rcases hR.2.2.2.2.2.2 with ⟨q1, q2⟩ | ⟨q1, q2⟩
  · obtain ⟨e1, e2⟩ := h1.1 q1
    obtain ⟨f1, f2⟩ := h2.1 q2
    exact ⟨by rw [e1, f1], by rw [f2, e2]; exact hR⟩
  · obtain ⟨⟨i1, i2, i3, i4⟩, ⟨j1, j2, j3, j4, j5, j6, j7, j8⟩, i5, i6, i7, i8, i9⟩ := id q2
    obtain ⟨e1, e2⟩ := h1.2 q1
    obtain ⟨f1, m1, m2, m3, m4, m5, m6, m7, m8⟩ := h2.2 (by omega)
    refine ⟨by rw [e1, f1]; omega, ?_⟩
    obtain ⟨g1, g2, g3, g4, g5, g6, g7⟩ := town_eq hR
    obtain ⟨t1, t2, t3, t4, t5⟩ := hR.1.1
    rw [kr 51 (by omega)] at m5 m6 m7 m8
    rw [kr 55 (by omega), kr 72 (by omega)] at m2
    rw [kr 57 (by omega), kr 58 (by omega), kr 59 (by omega), kr 73 (by omega)] at m3
    rw [kr 60 (by omega), kr 61 (by omega), kr 62 (by omega), kr 74 (by omega)] at m4
    have w1 : ∀ b, (b = 1 ∨ b = 2 ∨ b = 3 ∨ b = 8) → σ1 1 b = σ 11 b := fun b hb => by
      rw [e2]; unfold cpW
      rw [if_neg (by omega), if_neg (by omega), if_pos ⟨rfl, hb⟩]
    have w2 : ∀ b, σ1 2 b = if b < 36 then σ 12 b else σ 2 b := fun b => by
      rw [e2]; unfold cpW
      by_cases hb : b < 36
      · rw [if_pos ⟨rfl, hb⟩, if_pos hb]
      · rw [if_neg (by omega), if_neg (by omega), if_neg (by omega), if_neg hb]
    have w3 : ∀ a b, 3 ≤ a → a ≤ 6 → σ1 a b = if b < 6 then σ (a - 1 + 11) b else σ a b := fun a b h1 h2 => by
      rw [e2]; unfold cpW
      by_cases hb : b < 6
      · rw [if_neg (by omega), if_pos ⟨by omega, by omega, by rw [if_pos (by omega)]; exact hb⟩, if_pos hb]
      · rw [if_neg (by omega), if_neg (by rw [if_pos (show a < 1 + 6 by omega)]; omega), if_neg (by omega), if_neg hb]
    have w4 : ∀ a b, 7 ≤ a → a ≤ 10 → σ1 a b = if b < 5 then σ (a - 1 + 11) b else σ a b := fun a b h1 h2 => by
      rw [e2]; unfold cpW
      by_cases hb : b < 5
      · rw [if_neg (by omega), if_pos ⟨by omega, by omega, by rw [if_neg (by omega)]; exact hb⟩, if_pos hb]
      · rw [if_neg (by omega), if_neg (by rw [if_neg (show ¬ a < 1 + 6 by omega)]; omega), if_neg (by omega), if_neg hb]
    have n1 : ∀ a, a ≤ 50 → σ2 a = σ1 a := fun a ha => funext fun b => m1 a b (by omega) (by omega) (by omega) (by omega) (by omega) (by omega) (by omega) (by omega)
    have n2 : ∀ a, a ≤ 50 → ¬ (1 ≤ a ∧ a ≤ 10) → σ2 a = σ a := fun a h1 h2 => by rw [n1 a h1, kr a h2]
    have n3 : ∀ a, 52 ≤ a → ¬ (55 ≤ a ∧ a ≤ 62 ∧ a ≠ 56) → σ2 a = σ a := fun a h1 h2 => by rw [← kr a (by omega)]; exact funext fun b => m1 a b (by omega) (by omega) (by omega) (by omega) (by omega) (by omega) (by omega) (by omega)
    have n4 : ∀ b, b ≠ 4 → b ≠ 8 → b ≠ 13 → b ≠ 18 → σ2 51 b = σ 51 b := fun b h1 h2 h3 h4 => by rw [m1 51 b (by omega) (by omega) (by omega) (by omega) (by omega) (by omega) (by omega) (by omega), kr 51 (by omega)]
    have v1 : σ2 1 1 = σ 11 1 ∧ σ2 1 2 = σ 11 2 ∧ σ2 1 3 = σ 11 3 ∧ σ2 1 8 = σ 11 8 := by
      rw [n1 1 (by omega)]
      exact ⟨w1 1 (by omega), w1 2 (by omega), w1 3 (by omega), w1 8 (by omega)⟩
    -- rows of the town, both halves
    have a2 : ∀ b, σ2 2 b = σ2 55 b ∧ 0 ≤ σ2 2 b ∧ σ2 2 b ≤ 9 := fun b => by
      rw [n1 2 (by omega), w2, m2]
      by_cases hb : b < 36
      · rw [if_pos hb, if_pos hb]; have := i5 b hb; omega
      · rw [if_neg hb, if_neg hb]; exact ⟨(g5 b).1, (t5 b).1⟩
    have a3 : ∀ b, (σ2 3 b = σ2 57 b ∧ 0 ≤ σ2 3 b ∧ σ2 3 b ≤ 35) ∧ (σ2 4 b = σ2 58 b ∧ 0 ≤ σ2 4 b ∧ σ2 4 b ≤ 99) ∧ (σ2 5 b = σ2 59 b ∧ 0 ≤ σ2 5 b ∧ σ2 5 b ≤ 9) ∧ (0 ≤ σ2 6 b ∧ σ2 6 b ≤ 5) := fun b => by
      rw [n1 3 (by omega), n1 4 (by omega), n1 5 (by omega), n1 6 (by omega), w3 3 b (by omega) (by omega), w3 4 b (by omega) (by omega), w3 5 b (by omega) (by omega), w3 6 b (by omega) (by omega), (m3 b).1, (m3 b).2.1, (m3 b).2.2]
      by_cases hb : b < 6
      · obtain ⟨y1, y2, y3, y4⟩ := i6 b hb
        simp only [if_pos hb]
        exact ⟨⟨y1.1.symm, y1.2⟩, ⟨y2.1.symm, y2.2⟩, ⟨y3.1.symm, y3.2⟩, y4⟩
      · simp only [if_neg hb]
        exact ⟨⟨(g5 b).2.1, (t5 b).2.1⟩, ⟨(g5 b).2.2.1, (t5 b).2.2.1⟩, ⟨(g5 b).2.2.2.1, (t5 b).2.2.2.1⟩, (t5 b).2.2.2.2.1⟩
    have a4 : ∀ b, (σ2 7 b = σ2 60 b ∧ 0 ≤ σ2 7 b ∧ σ2 7 b ≤ 35) ∧ (σ2 8 b = σ2 61 b ∧ 0 ≤ σ2 8 b ∧ σ2 8 b ≤ 3) ∧ (σ2 9 b = σ2 62 b ∧ 0 ≤ σ2 9 b ∧ σ2 9 b ≤ 23) ∧ (0 ≤ σ2 10 b ∧ σ2 10 b ≤ 99) := fun b => by
      rw [n1 7 (by omega), n1 8 (by omega), n1 9 (by omega), n1 10 (by omega), w4 7 b (by omega) (by omega), w4 8 b (by omega) (by omega), w4 9 b (by omega) (by omega), w4 10 b (by omega) (by omega), (m4 b).1, (m4 b).2.1, (m4 b).2.2]
      by_cases hb : b < 5
      · obtain ⟨y1, y2, y3, y4⟩ := i7 b hb
        simp only [if_pos hb]
        exact ⟨⟨y1.1.symm, y1.2⟩, ⟨y2.1.symm, y2.2⟩, ⟨y3.1.symm, y3.2⟩, y4⟩
      · simp only [if_neg hb]
        exact ⟨⟨(g5 b).2.2.2.2.1, (t5 b).2.2.2.2.2.1⟩, ⟨(g5 b).2.2.2.2.2.1, (t5 b).2.2.2.2.2.2.1⟩, ⟨(g5 b).2.2.2.2.2.2, (t5 b).2.2.2.2.2.2.2.1⟩, (t5 b).2.2.2.2.2.2.2.2⟩
    have a6 : ∀ b : Nat, (b : Int) < σ 11 3 → σ2 6 b = σ 6 b := fun b hb => by
      rw [n1 6 (by omega), w3 6 b (by omega) (by omega)]
      split
      · exact i8 b hb
      · rfl
    have a10 : ∀ b : Nat, (b : Int) < σ 11 8 → σ2 10 b = σ 10 b := fun b hb => by
      rw [n1 10 (by omega), w4 10 b (by omega) (by omega)]
      split
      · exact i9 b hb
      · rfl
    have tI : TI σ2 := by
      unfold TI
      rw [v1.1, v1.2.1, v1.2.2.1, v1.2.2.2]
      have hc := hR.1.2.1.1
      exact ⟨by omega, by omega, by omega, by omega, fun b => ⟨(a2 b).2, (a3 b).1.2, (a3 b).2.1.2, (a3 b).2.2.1.2, (a3 b).2.2.2, (a4 b).1.2, (a4 b).2.1.2, (a4 b).2.2.1.2, (a4 b).2.2.2⟩⟩
    have mk := hR.2.1.1
    have tM : MI σ2 := by
      unfold MI
      rw [m5, m6, m7, m8]
      have hc := hR.1.2.1.1
      refine ⟨by omega, by omega, by omega, by omega, fun b => ?_⟩
      have x2 := a2 b
      have x3 := a3 b
      have x4 := a4 b
      rw [n3 56 (by omega) (by omega), n3 63 (by omega) (by omega)]
      exact ⟨by omega, by omega, by omega, by omega, (mk.2.2.2.2 b).2.2.2.2.1, by omega, by omega, by omega, (mk.2.2.2.2 b).2.2.2.2.2.2.2.2⟩
    have hT : cT σ2 = cM σ2 := by
      funext a b
      match a with
      | 0 => rfl
      | 1 =>
        show (if b = 1 ∨ b = 2 ∨ b = 3 ∨ b = 8 then σ2 1 b else 0) = (if b = 1 ∨ b = 2 ∨ b = 3 ∨ b = 8 then mT σ2 1 b else 0)
        split
        · rename_i hb
          rcases hb with rfl | rfl | rfl | rfl
          · show σ2 1 1 = σ2 51 8
            rw [v1.1, m7]; exact i3.symm
          · show σ2 1 2 = σ2 51 4
            rw [v1.2.1, m8]; exact i4.symm
          · show σ2 1 3 = σ2 51 13
            rw [v1.2.2.1, m6]; exact i2.symm
          · show σ2 1 8 = σ2 51 18
            rw [v1.2.2.2, m5]; exact i1.symm
        · rfl
      | 2 => exact (a2 b).1
      | 3 => exact (a3 b).1.1
      | 4 => exact (a3 b).2.1.1
      | 5 => exact (a3 b).2.2.1.1
      | 6 =>
        show (if (b : Int) < σ2 1 3 then σ2 6 b else 0) = (if (b : Int) < σ2 51 13 then σ2 56 b else 0)
        rw [v1.2.2.1, m6, i2]
        split
        · rename_i hb
          rw [a6 b hb, n3 56 (by omega) (by omega)]; exact g6 b (by omega)
        · rfl
      | 7 => exact (a4 b).1.1
      | 8 => exact (a4 b).2.1.1
      | 9 => exact (a4 b).2.2.1.1
      | 10 =>
        show (if (b : Int) < σ2 1 8 then σ2 10 b else 0) = (if (b : Int) < σ2 51 18 then σ2 63 b else 0)
        rw [v1.2.2.2, m5, i1]
        split
        · rename_i hb
          rw [a10 b hb, n3 63 (by omega) (by omega)]; exact g7 b (by omega)
        · rfl
      | n + 11 => rfl
    refine RR_mk hR tI tM hT (by rw [v1.2.1]; exact j8) (by rw [m8, i4]; exact j8) (fun a b h => ?_) (KV_keep hR.2.1.2.2.2 (n3 1064 (by omega) (by omega)) (n3 65 (by omega) (by omega))) (TPR_keep hR.2.2.2.2.1 (by rw [n2 28 (by omega) (by omega)]) (n4 6 (by omega) (by omega) (by omega) (by omega)) (n2 29 (by omega) (by omega)) (n3 54 (by omega) (by omega))) (SHS_keep hR.2.2.2.2.2.1 (fun a ha => ?_)) (Or.inr ⟨?_, ?_⟩)
    · unfold Itx at h
      by_cases ha : a = 51
      · subst ha; exact n4 b (by omega) (by omega) (by omega) (by omega)
      · by_cases hh : a ≤ 50
        · exact congrFun (n2 a hh (by omega)) b
        · exact congrFun (n3 a (by omega) (by omega)) b
    · by_cases hh : a ≤ 50
      · exact n2 a hh (by omega)
      · exact n3 a (by omega) (by omega)
    · rw [n2 0 (by omega) (by omega)]; exact q1
    · unfold IMr
      rw [n2 11 (by omega) (by omega), n2 12 (by omega) (by omega), n2 13 (by omega) (by omega), n2 14 (by omega) (by omega), n2 15 (by omega) (by omega), n2 16 (by omega) (by omega), n2 17 (by omega) (by omega), n2 18 (by omega) (by omega), n2 19 (by omega) (by omega), n2 20 (by omega) (by omega), n3 72 (by omega) (by omega), n3 73 (by omega) (by omega), n3 74 (by omega) (by omega), n4 48 (by omega) (by omega) (by omega) (by omega), n4 49 (by omega) (by omega) (by omega) (by omega), n4 50 (by omega) (by omega) (by omega) (by omega), n4 51 (by omega) (by omega) (by omega) (by omega), v1.2.2.1, v1.2.2.2]
      exact ⟨⟨i1, i2, i3, i4⟩, ⟨j1, Int.le_refl _, j3, Int.le_refl _, j5, j6, j7, j8⟩, i5, i6, i7, fun b hb => by rw [a6 b hb]; exact i8 b hb, fun b hb => by rw [a10 b hb]; exact i9 b hb⟩
end RM3