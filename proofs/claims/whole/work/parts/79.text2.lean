/-! turn, text, in both halves; what is asked -/
section RM4
variable {X : Nat → RuT} {tc : Nat} {cl : Nat → Nat} {σ σ1 σ2 : Sig}
theorem up_congr {s1 s2 : Sig} {t i a b : Nat} {v : Int} (h : s1 a b = s2 a b) : up s1 t i v a b = up s2 t i v a b := by
  rw [up_at2, up_at2, h]
theorem FB_Im {s1 s2 : Sig} (h : FB s1 s2) : ∀ a b, Im a b → s2 a b = s1 a b := fun a b hI => by
  by_cases ha : a = 0
  · subst ha; exact h.2 b (by unfold Im at hI; omega)
  · exact congrFun (h.1 a ha (by unfold Im at hI; omega) (by unfold Im at hI; omega)) b
theorem KX_Im {H : Nat → Nat → Prop} (hH : ∀ a b, H a b → ¬ Im a b) {s1 s2 : Sig} (h : KX H s1 s2) : ∀ a b, Im a b → s2 a b = s1 a b := fun a b hI => by
  by_cases ha : a = 51
  · subst ha; exact h.2 b (by unfold Im at hI; omega) (fun hh => hH _ _ hh hI)
  · exact h.1 a b ha (by unfold Im at hI; omega) (by unfold Im at hI; omega) (by unfold Im at hI; omega) (fun hh => hH _ _ hh hI)
theorem turn_row {v z : Int} (h1 : ((0 ≤ v ∧ v < σ 1 8) → ∃ bm bw, Bst X (cT σ) v.toNat 2 bm bw z ∧ FB (tS σ v.toNat bm bw) σ1) ∧ (¬ (0 ≤ v ∧ v < σ 1 8) → z = -100000 ∧ FB σ σ1)) : ∀ a, 51 ≤ a → ¬ (81 ≤ a ∧ a < 97 ∧ a % 3 = 0) → σ1 a = σ a := by
  intro a ha hb
  by_cases hv : 0 ≤ v ∧ v < σ 1 8
  · obtain ⟨bm, bw, _, h⟩ := h1.1 hv
    rw [h.1 a (by omega) (by omega) hb]; exact tS_row (by omega) (by omega)
  · exact (h1.2 hv).2.1 a (by omega) (by omega) hb
theorem R_turn (hR : RR X tc cl σ) {v z z' : Int} (h1 : ((0 ≤ v ∧ v < σ 1 8) → ∃ bm bw, Bst X (cT σ) v.toNat 2 bm bw z ∧ FB (tS σ v.toNat bm bw) σ1) ∧ (¬ (0 ≤ v ∧ v < σ 1 8) → z = -100000 ∧ FB σ σ1)) (h2 : KV X tc σ2 ∧ ((0 ≤ v ∧ v < σ1 51 18) → ∃ bm bw, Bst X (cM σ1) v.toNat 2 bm bw z' ∧ KX HB (up (up σ1 62 v.toNat bm) 61 v.toNat bw) σ2) ∧ (¬ (0 ≤ v ∧ v < σ1 51 18) → z' = -100000 ∧ KX HB σ1 σ2)) : z = z' ∧ RR X tc cl σ2 := by
  have kr := turn_row h1
  obtain ⟨hV, p1, p2⟩ := h2
  obtain ⟨q1, q2⟩ := h1
  have e8 : σ 1 8 = σ 51 18 := congrFun (congrFun hR.2.2.1 1) 8
  rw [kr 51 (by omega) (by omega)] at p1 p2
  by_cases hv : 0 ≤ v ∧ v < σ 1 8
  · obtain ⟨bm, bw, B, F⟩ := q1 hv
    obtain ⟨bm', bw', B', F'⟩ := p1 (by omega)
    have em1 : mT σ1 = mT σ := mT_keep (fun a h1 h2 => kr a (by omega) (by omega)) (fun b hb => by rw [kr 51 (by omega) (by omega)])
    have em : cM σ1 = cT σ := by
      unfold cM; rw [em1]
      exact hR.2.2.1.symm
    rw [em] at B'
    obtain ⟨rfl, rfl, rfl⟩ := Bst_uni B B'
    refine ⟨rfl, ?_⟩
    obtain ⟨m0, w0, ha, rfl, rfl, _⟩ := B
    have hm : (0 : Int) ≤ (m0 : Int) ∧ (m0 : Int) ≤ 23 := by have := ha.1; omega
    have hw : (0 : Int) ≤ (w0 : Int) ∧ (w0 : Int) ≤ 3 := by have := ha.2.1; omega
    have emt : mT (tS σ v.toNat (m0 : Int) (w0 : Int)) = mT σ := mT_keep (fun a h1 h2 => tS_row (by omega) (by omega)) (fun b hb => by rw [tS_row (by omega) (by omega)])
    have hT2 : RR X tc cl (up (up (tS σ v.toNat (m0 : Int) (w0 : Int)) 62 v.toNat (m0 : Int)) 61 v.toNat (w0 : Int)) := by
      refine R_mut hR (σ1 := tS σ v.toNat (m0 : Int) (w0 : Int)) (fun a b h => congrFun (tS_row (by omega) (by omega)) b) (fun a b h1 h2 => by rw [up_r (by omega), up_r (by omega)]) ?_ (TI_S hR.1.1 hm hw) ?_ ?_ ?_ ?_ ?_ (fun b hb => by rw [tS_row (by omega) (by omega)]) (fun b hb => by rw [tS_row (by omega) (by omega)])
      · rw [cT_S, cM_up61, cM_up62]
        unfold tS cM
        rw [show mT (up (up σ 9 v.toNat (m0 : Int)) 8 v.toNat (w0 : Int)) = mT σ from emt, show cT (mT σ) = cT σ from hR.2.2.1.symm]
      · refine MI_ofT ?_
        rw [mT_u61, mT_u62, emt]
        exact TI_u8 (TI_u9 (MI_T hR.2.1.1) hm) hw
      · rw [tS_row (by omega) (by omega)]; exact hR.1.2.2
      · rw [up_r (by omega), up_r (by omega), tS_row (by omega) (by omega)]; exact hR.2.1.2.2.1
      · rw [tS_row (by omega) (by omega)]; exact Int.le_refl _
      · rw [tS_row (by omega) (by omega)]; exact Int.le_refl _
    exact RR_frame (fun a b hI => by rw [KX_Im HB_Im F' a b hI]; exact up_congr (up_congr (FB_Im F a b hI))) hV hT2
  · obtain ⟨e1, F⟩ := q2 hv
    obtain ⟨f1, F'⟩ := p2 (by omega)
    exact ⟨by rw [e1, f1], RR_KX HB_Im (RR_FB hR F) F' hV⟩
theorem KV_grow {T : RuT} (h : KV X tc σ) : KV (fun t => if t = tc then T else X t) (tc + 1) σ := by
  intro p hp
  rcases h p hp with h | ⟨q, w, far, m, f, h, s, t, h1, h2, h3, h4, h5⟩
  · exact Or.inl h
  · refine Or.inr ⟨q, w, far, m, f, h, s, t, by omega, h2, h3, h4, ?_⟩
    rw [h5]
    show _ = evL (nmF far m f h s t) (prt w (if q.toNat = tc then T else X q.toNat))
    rw [if_neg (by omega)]
/-- what of text() the model's call needs -/
theorem text_row {n : Nat} {r : Option Value} {ρ' : Nat → Nat} {N' : Nat} {sh' : Nat → Shc} (h : TXc σ n tc cl r ρ' N' sh' σ1) : ∀ a, 51 ≤ a → a < NN tc ∨ 1000 < a → σ1 a = σ a := by
  intro a ha hb
  rcases h with ⟨_, _, _, _, h⟩ | ⟨_, e, _, _, _, _, h, _⟩ | ⟨ht, L1, L2, L3, _, _, _, _, h, _⟩
  · rw [h]
  · exact funext fun b => h a b (by omega) (by omega)
  · refine funext fun b => h a b (by omega) (by omega) ?_ ?_ (by omega)
    · unfold NN at hb ⊢; omega
    · unfold NN at hb ⊢; omega
theorem R_text (hR : RR X tc cl σ) {n : Nat} (h28 : σ 28 1 = (n : Int)) {r : Option Value} {ρ' : Nat → Nat} {N' : Nat} {sh' : Nat → Shc} (h : TXc σ n tc cl r ρ' N' sh' σ1) {z' : Int} (hm : TXm σ1 n z' σ2) : r = some (.int (iZ z')) ∧ ∃ X' tc' cl', N' = NN tc' ∧ sh' = shq tc' cl' ∧ RR X' tc' cl' σ2 := by
  have kr := text_row h
  have h3 := hR.2.2.2.1.2.1
  have h6 := hR.2.2.2.1.1
  obtain ⟨k, p1, p2, p3, p4⟩ := hR.2.2.2.2.1
  obtain rfl : n = k := by omega
  have htc := hR.1.2.1.1
  have hNN : NN tc = 79 + 3 * tc := rfl
  have r51 : σ1 51 = σ 51 := kr 51 (by omega) (by omega)
  have r54 : σ1 54 = σ 54 := kr 54 (by omega) (by omega)
  have hpt : pText (σ 29) n = pText (σ1 54) n := pText_cn (fun i hi => by rw [r54]; exact (p4 i hi).1)
  obtain ⟨m1, m2⟩ := hm
  rw [r51, h3] at m1
  rw [r51, h3] at m2
  rcases h with ⟨a1, a2, a3, a4, a5⟩ | ⟨a1, e, a2, a3, a4, a5, a6, a7⟩ | ⟨a1, L1, L2, L3, a2, a3, a4, a5, a6, a7, a8, a9, b1, b2, b3⟩
  · obtain ⟨e1, e2⟩ := m1 (by omega)
    refine ⟨by rw [a2, e1], X, tc, cl, a3, a4, ?_⟩
    rw [e2, a5]; exact hR
  · obtain ⟨n1, n2, n3, n4, n5, n6⟩ := m2 (by omega)
    rw [← hpt, a2] at n6
    obtain ⟨e1, e2⟩ := n6
    refine ⟨by rw [a3, e1, iZ_wrap], X, tc, cl, a4, a5, ?_⟩
    have w1 : ∀ a, a ≤ 50 → a ≠ 28 → a ≠ 30 → σ2 a = σ a := fun a h1 h2 h3 => funext fun b => by rw [n1 a b (by omega) (by omega) (by omega) (by omega)]; exact a6 a b h2 h3
    have w2 : ∀ a, 54 ≤ a → a ≠ 1051 → σ2 a = σ a := fun a h1 h2 => funext fun b => by rw [n1 a b (by omega) (by omega) (by omega) (by omega)]; exact a6 a b (by omega) (by omega)
    have w3 : ∀ b, b ≠ 3 → b ≠ 6 → (b < 25 ∨ 33 < b) → σ2 51 b = σ 51 b := fun b h1 h2 h3 => by rw [n2 b h1 h2 h3]
    have hM : HM σ2 X tc := by
      refine ⟨htc, fun t ht => ?_⟩
      obtain ⟨k, y1, y2, y3, y4⟩ := hR.2.1.2.1.2 t ht
      have q52 : ∀ i, i < k → σ2 52 (160 * t + i) = σ 52 (160 * t + i) := fun i hi => by
        rw [n4, Int.toNat_natCast, if_neg (by omega), kr 52 (by omega) (by omega)]
      refine ⟨k, ?_, y2, fun i hi => by rw [q52 i hi]; exact y3 i hi, ?_⟩
      · rw [n5, Int.toNat_natCast, if_neg (by omega), kr 53 (by omega) (by omega)]; exact y1
      · rw [← y4]; exact pText_cn q52
    have tk := town_keep hR (σ' := σ2) (fun a ha => by
      by_cases hh : a ≤ 50
      · exact w1 a hh (by omega) (by omega)
      · exact w2 a (by omega) (by omega)) (fun b hb => w3 b (by omega) (by omega) (by omega))
    obtain ⟨t1, t2, t3, t4, t5⟩ := tk
    refine ⟨⟨t1, HC_keep hR.1.2.1 (fun a h1 h2 h3 => w2 a (by omega) (by omega)), t4⟩, ⟨t2, hM, t5, KV_keep hR.2.1.2.2.2 (w2 1064 (by omega) (by omega)) (w2 65 (by omega) (by omega))⟩, t3, ⟨by rw [w1 0 (by omega) (by omega) (by omega)]; exact h6, e2, hR.2.2.2.1.2.2⟩, ⟨0, ?_, n3, by omega, fun i hi => by omega⟩, SHS_keep hR.2.2.2.2.2.1 (fun a ha => ?_), IMR_keep hR.2.2.2.2.2.2 (by rw [w1 0 (by omega) (by omega) (by omega)]) (fun b h1 h2 => w3 b (by omega) (by omega) (by omega)) (fun a ha => ?_) (by rw [w1 1 (by omega) (by omega) (by omega)]; exact Int.le_refl _) (by rw [w1 1 (by omega) (by omega) (by omega)]; exact Int.le_refl _) (fun b _ => by rw [w1 6 (by omega) (by omega) (by omega)]) (fun b _ => by rw [w1 10 (by omega) (by omega) (by omega)])⟩
    · rw [n1 28 1 (by omega) (by omega) (by omega) (by omega)]; exact a7
    · by_cases hh : a ≤ 50
      · exact w1 a hh (by omega) (by omega)
      · exact w2 a (by omega) (by omega)
    · by_cases hh : a ≤ 50
      · exact w1 a hh (by omega) (by omega)
      · exact w2 a (by omega) (by omega)
  · obtain ⟨n1, n2, n3, n4, n5, n6⟩ := m2 (by omega)
    rw [← hpt, a2] at n6
    obtain ⟨e1, e2⟩ := n6
    refine ⟨by rw [a3, e1], (fun t => if t = tc then (L1, L2, L3) else X t), tc + 1, (fun t => if t = tc then (L1 ++ L2 ++ L3).length else cl t), a4, a5, ?_⟩
    have w1 : ∀ a, a ≤ 50 → a ≠ 0 → a ≠ 28 → a ≠ 30 → σ2 a = σ a := fun a h0 h1 h2 h3 => funext fun b => by rw [n1 a b (by omega) (by omega) (by omega) (by omega)]; exact a6 a b h2 h3 (by omega) (by omega) (by omega)
    have w0 : ∀ b, b ≠ 6 → σ2 0 b = σ 0 b := fun b hb => by rw [n1 0 b (by omega) (by omega) (by omega) (by omega)]; exact a6 0 b (by omega) (by omega) (by omega) (by omega) (by omega)
    have w2 : ∀ a, 54 ≤ a → a ≠ 1051 → a ≠ 79 + 3 * tc → a ≠ 79 + 3 * tc + 1 → σ2 a = σ a := fun a h1 h2 h3 h4 => funext fun b => by rw [n1 a b (by omega) (by omega) (by omega) (by omega)]; exact a6 a b (by omega) (by omega) (by omega) (by omega) (by omega)
    have w3 : ∀ b, b ≠ 3 → b ≠ 6 → (b < 25 ∨ 33 < b) → σ2 51 b = σ 51 b := fun b h1 h2 h3 => by rw [n2 b h1 h2 h3]
    have w4 : ∀ a b, 54 ≤ a → a ≠ 1051 → σ2 a b = σ1 a b := fun a b h1 h2 => n1 a b (by omega) (by omega) (by omega) (by omega)
    obtain ⟨hl1, hl2, hl3, hl4⟩ := pText_WL a2
    have hC : HC σ2 (fun t => if t = tc then (L1, L2, L3) else X t) (tc + 1) (fun t => if t = tc then (L1 ++ L2 ++ L3).length else cl t) := by
      refine ⟨by omega, fun t ht => ?_⟩
      by_cases htt : t = tc
      · subst htt
        rw [hNN] at a9 b1 b2
        simp only [if_pos]
        refine ⟨by rw [w4 _ _ (by omega) (by omega)]; exact a9, by rw [w4 _ _ (by omega) (by omega)]; exact b1, by rw [List.length_append, List.length_append], by omega, fun i x hx => by rw [w4 _ _ (by omega) (by omega)]; exact b2 i x hx, hl1, hl2, hl3⟩
      · simp only [if_neg htt]
        rw [w2 (79 + 3 * t) (by omega) (by omega) (by omega) (by omega), w2 (79 + 3 * t + 1) (by omega) (by omega) (by omega) (by omega)]
        exact hR.1.2.1.2 t (by omega)
    have hM : HM σ2 (fun t => if t = tc then (L1, L2, L3) else X t) (tc + 1) := by
      refine ⟨by omega, fun t ht => ?_⟩
      by_cases htt : t = tc
      · subst htt
        have q52 : ∀ i, i < n → σ2 52 (160 * t + i) = σ 54 i := fun i hi => by
          rw [n4, Int.toNat_natCast, if_pos (by omega), r54, show 160 * t + i - 160 * t = i by omega]
        refine ⟨n, ?_, p3, fun i hi => by rw [q52 i hi]; exact (p4 i hi).2, ?_⟩
        · rw [n5, Int.toNat_natCast, if_pos rfl]
        · rw [show ((fun t_1 => if t_1 = t then (L1, L2, L3) else X t_1) t) = (L1, L2, L3) from if_pos rfl, ← a2]
          exact pText_cn (fun i hi => by rw [q52 i hi]; exact (p4 i hi).1.symm)
      · obtain ⟨k, y1, y2, y3, y4⟩ := hR.2.1.2.1.2 t (by omega)
        have q52 : ∀ i, i < k → σ2 52 (160 * t + i) = σ 52 (160 * t + i) := fun i hi => by
          rw [n4, Int.toNat_natCast, if_neg (by omega), kr 52 (by omega) (by omega)]
        refine ⟨k, ?_, y2, fun i hi => by rw [q52 i hi]; exact y3 i hi, ?_⟩
        · rw [n5, Int.toNat_natCast, if_neg (by omega), kr 53 (by omega) (by omega)]; exact y1
        · rw [show ((fun t => if t = tc then (L1, L2, L3) else X t) t) = X t from if_neg htt, ← y4]; exact pText_cn q52
    have tk := town_keep hR (σ' := σ2) (fun a ha => by
      by_cases hh : a ≤ 50
      · exact w1 a hh (by omega) (by omega) (by omega)
      · exact w2 a (by omega) (by omega) (by omega) (by omega)) (fun b hb => w3 b (by omega) (by omega) (by omega))
    obtain ⟨t1, t2, t3, t4, t5⟩ := tk
    refine ⟨⟨t1, hC, by omega⟩, ⟨t2, hM, by omega, KV_keep (KV_grow hR.2.1.2.2.2) (w2 1064 (by omega) (by omega) (by omega) (by omega)) (w2 65 (by omega) (by omega) (by omega) (by omega))⟩, t3, ⟨?_, by rw [e2]; rfl, by omega⟩, ⟨0, ?_, n3, by omega, fun i hi => by omega⟩, SHS_keep hR.2.2.2.2.2.1 (fun a ha => ?_), ?_⟩
    · rw [n1 0 6 (by omega) (by omega) (by omega) (by omega), a8]; rfl
    · rw [n1 28 1 (by omega) (by omega) (by omega) (by omega)]; exact a7
    · by_cases hh : a ≤ 50
      · exact w1 a hh (by omega) (by omega) (by omega)
      · exact w2 a (by omega) (by omega) (by omega) (by omega)
    · have hI := IMR_keep (σ' := σ2) hR.2.2.2.2.2.2 (w0 2 (by omega)) (fun b h1 h2 => w3 b (by omega) (by omega) (by omega)) (fun a ha => by
        by_cases hh : a ≤ 50
        · exact w1 a hh (by omega) (by omega) (by omega)
        · exact w2 a (by omega) (by omega) (by omega) (by omega)) (by rw [w1 1 (by omega) (by omega) (by omega) (by omega)]; exact Int.le_refl _) (by rw [w1 1 (by omega) (by omega) (by omega) (by omega)]; exact Int.le_refl _) (fun b _ => by rw [w1 6 (by omega) (by omega) (by omega) (by omega)]) (fun b _ => by rw [w1 10 (by omega) (by omega) (by omega) (by omega)])
      unfold IMR at hI ⊢
      rcases hI with hI | ⟨i1, i2⟩
      · exact Or.inl hI
      · refine Or.inr ⟨i1, ?_⟩
        unfold IMr at i2 ⊢
        obtain ⟨c1, c2, c3⟩ := i2
        exact ⟨c1, by omega, c3⟩
/-- nothing lies behind the world's end -/
def zz (tc : Nat) (σ : Sig) : Sig := fun a b => if (NN tc ≤ a ∧ a < 1000) ∨ (NN tc + 1000 ≤ a ∧ a < 2000) then 0 else σ a b
theorem HZ_zz : HZ (NN tc) (zz tc σ) := fun a h1 h2 i => ⟨if_pos (by omega), if_pos (by omega)⟩
theorem zz_low {a : Nat} (h : a < NN tc ∨ (1000 ≤ a ∧ a < NN tc + 1000)) : zz tc σ a = σ a := funext fun b => if_neg (by omega)
theorem RR_zz (hR : RR X tc cl σ) : RR X tc cl (zz tc σ) := by
  have hNN : NN tc = 79 + 3 * tc := rfl
  have r : ∀ a, a < 79 + 3 * tc → zz tc σ a = σ a := fun a h => zz_low (by omega)
  obtain ⟨t1, t2, t3, t4, t5⟩ := town_keep hR (σ' := zz tc σ) (fun a ha => r a (by omega)) (fun b hb => by rw [r 51 (by omega)])
  refine ⟨⟨t1, ⟨hR.1.2.1.1, fun t ht => ?_⟩, t4⟩, ⟨t2, HM_keep hR.2.1.2.1 (r 52 (by omega)) (r 53 (by omega)), t5, KV_keep hR.2.1.2.2.2 (zz_low (by omega)) (r 65 (by omega))⟩, t3, ⟨by rw [r 0 (by omega)]; exact hR.2.2.2.1.1, by rw [r 51 (by omega)]; exact hR.2.2.2.1.2.1, hR.2.2.2.1.2.2⟩, TPR_keep hR.2.2.2.2.1 (by rw [r 28 (by omega)]) (by rw [r 51 (by omega)]) (r 29 (by omega)) (r 54 (by omega)), SHS_keep hR.2.2.2.2.2.1 (fun a ha => r a (by omega)), IMR_keep hR.2.2.2.2.2.2 (by rw [r 0 (by omega)]) (fun b _ _ => by rw [r 51 (by omega)]) (fun a ha => r a (by omega)) (by rw [r 1 (by omega)]; exact Int.le_refl _) (by rw [r 1 (by omega)]; exact Int.le_refl _) (fun b _ => by rw [r 6 (by omega)]) (fun b _ => by rw [r 10 (by omega)])⟩
  rw [r (79 + 3 * t) (by omega), r (79 + 3 * t + 1) (by omega)]
  exact hR.1.2.1.2 t ht
end RM4