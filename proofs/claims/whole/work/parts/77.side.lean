/-! tape, rule, heights, sheets, image, in both halves -/
theorem cT_row2 {T : Sig} {g : Nat → Int} : cT (rowS T 2 g) = rowS (cT T) 2 g := by
  funext a b
  match a with
  | 0 => rfl
  | 1 => rfl
  | 2 => rfl
  | 3 => rfl
  | 4 => rfl
  | 5 => rfl
  | 6 => rfl
  | 7 => rfl
  | 8 => rfl
  | 9 => rfl
  | 10 => rfl
  | n + 11 => rfl
theorem mT_row55 {σ : Sig} {g : Nat → Int} : mT (rowS σ 55 g) = rowS (mT σ) 2 g := by
  funext a b
  match a with
  | 0 => rfl
  | 1 => rfl
  | 2 => rfl
  | 3 => rfl
  | 4 => rfl
  | 5 => rfl
  | 6 => rfl
  | 7 => rfl
  | 8 => rfl
  | 9 => rfl
  | 10 => rfl
  | n + 11 => rfl
theorem TI_row2 {T : Sig} {g : Nat → Int} (hT : TI T) (hg : ∀ b, 0 ≤ g b ∧ g b ≤ 9) : TI (rowS T 2 g) := by
  obtain ⟨h1, h2, h3, h4, h5⟩ := hT
  exact ⟨h1, h2, h3, h4, fun i => ⟨hg i, (h5 i).2⟩⟩
theorem rowS_r {σ : Sig} {q a b : Nat} {g : Nat → Int} (h : a ≠ q) : rowS σ q g a b = σ a b := if_neg h
theorem hgtR_cong {H it it' : Nat → Int} {p : Nat} : ∀ k, (∀ j, j < 2 * k → it (p + j) = it' (p + j)) → hgtR H it p k = hgtR H it' p k
  | 0, _ => rfl
  | k + 1, h => by
    funext b
    simp only [hgtR]
    rw [hgtR_cong k (fun j hj => h j (by omega)), h (2 * k) (by omega), show p + 2 * k + 1 = p + (2 * k + 1) from rfl, h (2 * k + 1) (by omega)]
theorem hgtC_cong {it it' : Nat → Int} {p : Nat} : ∀ k, (∀ j, j < 2 * k → it (p + j) = it' (p + j)) → hgtC it p k = hgtC it' p k
  | 0, _ => rfl
  | k + 1, h => by
    simp only [hgtC]
    rw [hgtC_cong k (fun j hj => h j (by omega)), h (2 * k) (by omega), show p + 2 * k + 1 = p + (2 * k + 1) from rfl, h (2 * k + 1) (by omega)]
section RM2
variable {X : Nat → RuT} {tc : Nat} {cl : Nat → Nat} {σ σ' : Sig}
theorem RR_side (hR : RR X tc cl σ) (k : ∀ a, (1 ≤ a ∧ a ≤ 10) ∨ (52 ≤ a ∧ a ≤ 53) ∨ (55 ≤ a ∧ a ≤ 63) ∨ (79 ≤ a ∧ a ≤ 96 ∧ a % 3 ≠ 0) ∨ a = 65 ∨ a = 1064 → σ' a = σ a) (k51 : ∀ b, b = 3 ∨ b = 4 ∨ b = 8 ∨ b = 13 ∨ b = 18 → σ' 51 b = σ 51 b) (k0 : σ' 0 6 = σ 0 6) (hP : TPR σ') (hS : SI σ' ∧ MS σ' ∧ ∀ i, i < 4 → ShR σ' i) (hI : IMR tc σ') : RR X tc cl σ' := by
  obtain ⟨t1, t2, t3, t4, t5⟩ := town_keep hR (fun a ha => k a (by omega)) (fun b hb => k51 b (by omega))
  refine RR_mk hR t1 t2 t3 t4 t5 (fun a b h => ?_) (KV_keep hR.2.1.2.2.2 (k 1064 (by omega)) (k 65 (by omega))) hP hS hI
  unfold Itx at h
  rcases h with ⟨rfl, rfl⟩ | ⟨rfl, rfl⟩ | rfl | rfl | h
  · exact k0
  · exact k51 3 (by omega)
  · exact congrFun (k 52 (by omega)) b
  · exact congrFun (k 53 (by omega)) b
  · exact congrFun (k a (by omega)) b
theorem IMR_same (hR : RR X tc cl σ) (h0 : σ' 0 2 = σ 0 2) (h51 : ∀ b, 48 ≤ b → b ≤ 51 → σ' 51 b = σ 51 b) (r : ∀ a, (1 ≤ a ∧ a ≤ 20) ∨ (72 ≤ a ∧ a ≤ 74) → σ' a = σ a) : IMR tc σ' := IMR_keep hR.2.2.2.2.2.2 h0 h51 (fun a ha => r a (by omega)) (by rw [r 1 (by omega)]; exact Int.le_refl _) (by rw [r 1 (by omega)]; exact Int.le_refl _) (fun b _ => by rw [r 6 (by omega)]) (fun b _ => by rw [r 10 (by omega)])
theorem R_feed (hR : RR X tc cl σ) {v : Int} : rM_feed (nX_feed σ v) v = rX_feed σ v ∧ RR X tc cl (nM_feed (nX_feed σ v) v) := by
  obtain ⟨n, p1, p2, p3, p4⟩ := hR.2.2.2.2.1
  by_cases hv : (0 ≤ v ∧ v ≤ 255) ∧ n < 160
  · have e1 : nX_feed σ v = up (up σ 29 n v) 28 1 ((n : Int) + 1) := by
      unfold nX_feed
      rw [p1, if_pos (by omega), Int.toNat_natCast]
    have q2 : (up (up σ 29 n v) 28 1 ((n : Int) + 1)) 51 6 = (n : Int) := by rw [up_r (by decide), up_r (by decide)]; exact p2
    have e2 : nM_feed (nX_feed σ v) v = up (up (nX_feed σ v) 54 n v) 51 6 ((n : Int) + 1) := by
      unfold nM_feed
      rw [e1, q2, if_pos (by omega), Int.toNat_natCast]
    refine ⟨?_, ?_⟩
    · unfold rM_feed rX_feed
      rw [e1, q2, p1]
    · rw [e2, e1]
      have r : ∀ a, a ≠ 28 → a ≠ 29 → a ≠ 51 → a ≠ 54 → (up (up (up (up σ 29 n v) 28 1 ((n : Int) + 1)) 54 n v) 51 6 ((n : Int) + 1)) a = σ a := fun a h1 h2 h3 h4 => by rw [up_row h3, up_row h4, up_row h1, up_row h2]
      have r51 : ∀ b, b ≠ 6 → (up (up (up (up σ 29 n v) 28 1 ((n : Int) + 1)) 54 n v) 51 6 ((n : Int) + 1)) 51 b = σ 51 b := fun b hb => by rw [up_i hb, up_r (by decide), up_r (by decide), up_r (by decide)]
      refine RR_side hR (fun a ha => r a (by omega) (by omega) (by omega) (by omega)) (fun b hb => r51 b (by omega)) (by rw [r 0 (by omega) (by omega) (by omega) (by omega)]) ⟨n + 1, ?_, ?_, by omega, fun i hi => ?_⟩ (SHS_keep hR.2.2.2.2.2.1 (fun a ha => r a (by omega) (by omega) (by omega) (by omega))) (IMR_same hR (by rw [r 0 (by omega) (by omega) (by omega) (by omega)]) (fun b h1 h2 => r51 b (by omega)) (fun a ha => r a (by omega) (by omega) (by omega) (by omega)))
      · rw [up_r (by decide), up_r (by decide), up_s]; rfl
      · rw [up_s]; rfl
      · rw [up_r (by decide), up_r (by decide), up_r (by decide), up_r (show (54 : Nat) ≠ 51 by decide)]
        by_cases hin : i = n
        · subst hin; rw [up_s, up_s]; exact ⟨rfl, hv.1.1, hv.1.2⟩
        · rw [up_i hin, up_i hin, up_r (by decide), up_r (by decide)]; exact p4 i (by omega)
  · have e1 : nX_feed σ v = σ := by
      unfold nX_feed
      rw [p1, if_neg (by omega)]
    have e2 : nM_feed σ v = σ := by
      unfold nM_feed
      rw [p2, if_neg (by omega)]
    rw [e1, e2]
    refine ⟨?_, hR⟩
    unfold rM_feed rX_feed
    rw [p1, p2]
theorem R_force (hR : RR X tc cl σ) {v : Int} {σ1 σ2 : Sig} (h1 : σ1 = (if 0 ≤ v ∧ v < σ 0 6 then up σ 1 2 v else σ)) (h2 : σ2 = (if 0 ≤ v ∧ v < σ1 51 3 then up σ1 51 4 v else σ1)) : (if 0 ≤ v ∧ v < σ1 51 3 then σ1 51 4 else -2) = (if 0 ≤ v ∧ v < σ 0 6 then σ 1 2 else -2) ∧ RR X tc cl σ2 := by
  have e12 : σ 1 2 = σ 51 4 := congrFun (congrFun hR.2.2.1 1) 2
  have htc := hR.1.2.1.1
  have q6 := hR.2.2.2.1.1
  have q3 := hR.2.2.2.1.2.1
  by_cases hv : 0 ≤ v ∧ v < (tc : Int)
  · rw [q6, if_pos hv] at h1
    subst h1
    have q4 : (up σ 1 2 v) 51 3 = (tc : Int) := by rw [up_r (by decide)]; exact q3
    rw [q4, if_pos hv] at h2
    subst h2
    rw [q4, q6, if_pos hv, if_pos hv]
    refine ⟨by rw [up_r (by decide)]; exact e12.symm, ?_⟩
    refine R_mut hR (σ1 := up σ 1 2 v) (fun a b h => up_r (by omega)) (fun a b h1 h2 => by rw [up_at2, if_neg (by omega)]) ?_ (TI_f2 hR.1.1 (by omega)) ?_ ?_ ?_ ?_ ?_ (fun b hb => up_r (by decide)) (fun b hb => up_r (by decide))
    · have em : mT (up σ 1 2 v) = mT σ := mT_keep (fun a h1 h2 => up_row (by omega)) (fun b hb => up_r (by decide))
      unfold cM
      rw [mT_f4, em, cT_f2, cT_f2]
      exact congrArg (fun T => up T 1 2 v) hR.2.2.1
    · refine MI_ofT ?_
      have em : mT (up σ 1 2 v) = mT σ := mT_keep (fun a h1 h2 => up_row (by omega)) (fun b hb => up_r (by decide))
      rw [mT_f4, em]
      exact TI_f2 (MI_T hR.2.1.1) (by omega)
    · rw [up_s]; exact hv.2
    · rw [up_s]; exact hv.2
    · rw [up_i (by decide)]; exact Int.le_refl _
    · rw [up_i (by decide)]; exact Int.le_refl _
  · rw [q6, if_neg hv] at h1
    subst h1
    rw [q3, if_neg hv] at h2
    subst h2
    rw [q3, q6, if_neg hv, if_neg hv]
    exact ⟨rfl, hR⟩
theorem kH_le {f sz n : Int} (hn : 0 ≤ n) (hsz : 0 ≤ sz) : kH f sz n ≤ n.toNat ∧ (0 < kH f sz n → 0 ≤ f ∧ f.toNat + 2 * kH f sz n ≤ sz.toNat) := by
  unfold kH
  split
  · exact ⟨by omega, fun h => by omega⟩
  · exact ⟨by omega, fun h => by omega⟩
theorem R_heights (hR : RR X tc cl σ) {s q f n : Int} : rM_heights (nX_heights σ s q f n) s q f n = rX_heights σ s q f n ∧ RR X tc cl (nM_heights (nX_heights σ s q f n) s q f n) := by
  have fr : ∀ a, a ≠ 2 → (nX_heights σ s q f n) a = σ a := fun a ha => funext fun b => by
    unfold nX_heights
    split
    · exact rowS_r ha
    · rfl
  have eit : itM (nX_heights σ s q f n) s.toNat = itM σ s.toNat := by unfold itM; rw [fr 78 (by omega)]
  by_cases hC : 0 ≤ s ∧ s < 4 ∧ 0 ≤ q ∧ q < 3 ∧ 0 ≤ n ∧ n < 21
  · have hi : s.toNat < 4 := by omega
    rcases hR.2.2.2.2.2.1.2.2 s.toNat hi with ⟨h1, h2⟩ | ⟨h1, h2, h3, h4, h5⟩
    · have e1 : nX_heights σ s q f n = σ := by unfold nX_heights; rw [if_neg (by omega)]
      have e2 : nM_heights σ s q f n = σ := by unfold nM_heights; rw [if_neg (by omega)]
      rw [e1, e2]
      refine ⟨?_, hR⟩
      unfold rM_heights rX_heights
      rw [if_pos hC, if_pos hC, if_neg (show ¬ (σ 75 s.toNat ≠ 0 ∧ σ 76 s.toNat ≠ q) by omega), if_pos h2, if_neg (show ¬ (σ (43 + s.toNat) 1 ≠ -1 ∧ σ (43 + s.toNat) 1 ≠ q) by omega), if_pos h1]
    · by_cases hq : σ (43 + s.toNat) 1 = q
      · have hms := (hR.2.2.2.2.2.1.2.1 s.toNat hi).2.2 h2
        obtain ⟨k1, k2⟩ := kH_le (f := f) (sz := σ 77 s.toNat) (n := n) (by omega) (by omega)
        have hit : ∀ k, k ≤ kH f (σ 77 s.toNat) n → ∀ j, j < 2 * k → σ (47 + s.toNat) (f.toNat + j) = itM σ s.toNat (f.toNat + j) := fun k hk j hj => h5 _ (by omega)
        have e1 : nX_heights σ s q f n = rowS σ 2 (hgtR (σ 2) (σ (47 + s.toNat)) f.toNat (kH f (σ 77 s.toNat) n)) := by
          unfold nX_heights
          rw [if_pos ⟨hC.1, hC.2.1, hC.2.2.1, hC.2.2.2.1, hC.2.2.2.2.1, hC.2.2.2.2.2, h1, hq⟩, h4]
        have e2 : nM_heights (nX_heights σ s q f n) s q f n = rowS (nX_heights σ s q f n) 55 (hgtR (σ 55) (itM σ s.toNat) f.toNat (kH f (σ 77 s.toNat) n)) := by
          unfold nM_heights
          rw [fr 75 (by omega), fr 76 (by omega), fr 77 (by omega), fr 55 (by omega), eit, if_pos ⟨hC.1, hC.2.1, hC.2.2.1, hC.2.2.2.1, hC.2.2.2.2.1, hC.2.2.2.2.2, by omega, by omega⟩]
        have e255 : σ 2 = σ 55 := congrFun hR.2.2.1 2
        have hh : hgtR (σ 2) (σ (47 + s.toNat)) f.toNat (kH f (σ 77 s.toNat) n) = hgtR (σ 55) (itM σ s.toNat) f.toNat (kH f (σ 77 s.toNat) n) := by rw [e255]; exact hgtR_cong _ (hit _ (Nat.le_refl _))
        have hb9 : ∀ b, 0 ≤ hgtR (σ 55) (itM σ s.toNat) f.toNat (kH f (σ 77 s.toNat) n) b ∧ hgtR (σ 55) (itM σ s.toNat) f.toNat (kH f (σ 77 s.toNat) n) b ≤ 9 := hgtR_in (fun b => (hR.2.1.1.2.2.2.2 b).1) _
        refine ⟨?_, ?_⟩
        · unfold rM_heights rX_heights
          rw [fr 75 (by omega), fr 76 (by omega), fr 77 (by omega), eit, if_pos hC, if_pos hC, if_neg (show ¬ (σ 75 s.toNat ≠ 0 ∧ σ 76 s.toNat ≠ q) by omega), if_neg (show ¬ σ 75 s.toNat = 0 by omega), if_neg (show ¬ (σ (43 + s.toNat) 1 ≠ -1 ∧ σ (43 + s.toNat) 1 ≠ q) by omega), if_neg h1, h4]
          by_cases hk : kH f (σ 77 s.toNat) n < n.toNat
          · rw [if_pos hk, if_pos hk]
          · rw [if_neg hk, if_neg hk]
            exact (hgtC_cong _ (hit _ (by omega))).symm
        · rw [e2]
          have fr2 : ∀ a, a ≠ 2 → a ≠ 55 → (rowS (nX_heights σ s q f n) 55 (hgtR (σ 55) (itM σ s.toNat) f.toNat (kH f (σ 77 s.toNat) n))) a = σ a := fun a h1 h2 => by
            rw [← fr a h1]; exact funext fun b => rowS_r h2
          refine R_mut hR (σ1 := nX_heights σ s q f n) (fun a b h => congrFun (fr a (by omega)) b) (fun a b h1 h2 => rowS_r (by omega)) ?_ ?_ ?_ ?_ ?_ ?_ ?_ (fun b hb => by rw [fr 6 (by omega)]) (fun b hb => by rw [fr 10 (by omega)])
          · have em : mT (nX_heights σ s q f n) = mT σ := mT_keep (fun a h1 h2 => fr a (by omega)) (fun b hb => by rw [fr 51 (by omega)])
            unfold cM
            rw [mT_row55, em, e1, cT_row2, cT_row2, hh]
            exact congrArg (fun T => rowS T 2 _) hR.2.2.1
          · rw [e1, hh]; exact TI_row2 hR.1.1 hb9
          · refine MI_ofT ?_
            have em : mT (nX_heights σ s q f n) = mT σ := mT_keep (fun a h1 h2 => fr a (by omega)) (fun b hb => by rw [fr 51 (by omega)])
            rw [mT_row55, em]
            exact TI_row2 (MI_T hR.2.1.1) hb9
          · rw [fr 1 (by omega)]; exact hR.1.2.2
          · rw [fr2 51 (by omega) (by omega)]; exact hR.2.1.2.2.1
          · rw [fr 1 (by omega)]; exact Int.le_refl _
          · rw [fr 1 (by omega)]; exact Int.le_refl _
      · have e1 : nX_heights σ s q f n = σ := by unfold nX_heights; rw [if_neg (by omega)]
        have e2 : nM_heights σ s q f n = σ := by unfold nM_heights; rw [if_neg (by omega)]
        rw [e1, e2]
        refine ⟨?_, hR⟩
        unfold rM_heights rX_heights
        rw [if_pos hC, if_pos hC, if_pos (show σ 75 s.toNat ≠ 0 ∧ σ 76 s.toNat ≠ q by omega), if_pos (show σ (43 + s.toNat) 1 ≠ -1 ∧ σ (43 + s.toNat) 1 ≠ q by omega)]
  · have e1 : nX_heights σ s q f n = σ := by unfold nX_heights; rw [if_neg (by omega)]
    have e2 : nM_heights σ s q f n = σ := by unfold nM_heights; rw [if_neg (by omega)]
    rw [e1, e2]
    refine ⟨?_, hR⟩
    unfold rM_heights rX_heights
    rw [if_neg hC, if_neg hC]
/-- only the sheets change -/
theorem RR_sheets (hR : RR X tc cl σ) (r : ∀ a, ¬ (43 ≤ a ∧ a ≤ 50) → ¬ (75 ≤ a ∧ a ≤ 78) → σ' a = σ a) (hS : SI σ' ∧ MS σ' ∧ ∀ i, i < 4 → ShR σ' i) : RR X tc cl σ' :=
  RR_side hR (fun a ha => r a (by omega) (by omega)) (fun b hb => by rw [r 51 (by omega) (by omega)]) (by rw [r 0 (by omega) (by omega)]) (TPR_keep hR.2.2.2.2.1 (by rw [r 28 (by omega) (by omega)]) (by rw [r 51 (by omega) (by omega)]) (r 29 (by omega) (by omega)) (r 54 (by omega) (by omega))) hS (IMR_same hR (by rw [r 0 (by omega) (by omega)]) (fun b h1 h2 => by rw [r 51 (by omega) (by omega)]) (fun a ha => r a (by omega) (by omega)))
theorem R_sheet (hR : RR X tc cl σ) {s q n : Int} : rM_sheet (nX_sheet σ s q n) s q n = rX_sheet σ s q n ∧ RR X tc cl (nM_sheet (nX_sheet σ s q n) s q n) := by
  refine ⟨rfl, ?_⟩
  by_cases hC : 0 ≤ s ∧ s < 4 ∧ -1 ≤ q ∧ q ≤ 2 ∧ (q = -1 ∨ n ≤ 40) ∧ ¬ (q ≠ -1 ∧ n < 0)
  · obtain ⟨i, rfl⟩ : ∃ i : Nat, s = (i : Int) := ⟨s.toNat, by omega⟩
    have hi : i < 4 := by omega
    have g : ∀ a b, nM_sheet (nX_sheet σ (i : Int) q n) (i : Int) q n a b = if a = 78 ∧ q ≠ -1 ∧ 40 * i ≤ b ∧ b < 40 * i + n.toNat then 0 else if a = 77 ∧ b = i then n else if a = 76 ∧ b = i then q else if a = 75 ∧ b = i then (if q = -1 then 0 else 1) else if a = 47 + i ∧ b < 40 then 0 else if a = 43 + i ∧ b = 2 then (if q = -1 then 0 else n) else if a = 43 + i ∧ b = 1 then q else σ a b := fun a b => by
      unfold nM_sheet nX_sheet
      rw [if_pos hC, if_pos hC, Int.toNat_natCast]
      simp only [up_at2]
    have hx := hR.2.2.2.2.2.1
    refine RR_sheets hR (fun a h1 h2 => funext fun b => by rw [g a b]; (repeat rw [if_neg (by omega)])) ⟨fun j hj => ?_, fun j hj => ?_, fun j hj => ?_⟩
    · rw [g, g]
      have h := hx.1 j hj
      by_cases hji : j = i
      · subst hji
        rw [if_neg (by omega), if_neg (by omega), if_neg (by omega), if_neg (by omega), if_neg (by omega), if_neg (by omega), if_pos ⟨rfl, rfl⟩]
        rw [if_neg (by omega), if_neg (by omega), if_neg (by omega), if_neg (by omega), if_neg (by omega), if_pos ⟨rfl, rfl⟩]
        split <;> omega
      · rw [if_neg (by omega), if_neg (by omega), if_neg (by omega), if_neg (by omega), if_neg (by omega), if_neg (by omega), if_neg (by omega)]
        rw [if_neg (by omega), if_neg (by omega), if_neg (by omega), if_neg (by omega), if_neg (by omega), if_neg (by omega), if_neg (by omega)]
        exact h
    · have h := hx.2.1 j hj
      by_cases hji : j = i
      · subst hji
        have g3 : nM_sheet (nX_sheet σ (j : Int) q n) (j : Int) q n 75 j = if q = -1 then 0 else 1 := by
          rw [g, if_neg (by omega), if_neg (by omega), if_neg (by omega), if_pos ⟨rfl, rfl⟩]
        have g4 : nM_sheet (nX_sheet σ (j : Int) q n) (j : Int) q n 76 j = q := by
          rw [g, if_neg (by omega), if_neg (by omega), if_pos ⟨rfl, rfl⟩]
        have g5 : nM_sheet (nX_sheet σ (j : Int) q n) (j : Int) q n 77 j = n := by
          rw [g, if_neg (by omega), if_pos ⟨rfl, rfl⟩]
        rw [g3, g4, g5]
        by_cases hq : q = -1
        · rw [if_pos hq]
          exact ⟨Or.inl rfl, by omega, fun hh => absurd hh (by decide)⟩
        · rw [if_neg hq]
          exact ⟨Or.inr rfl, by omega, fun _ => by omega⟩
      · have gm : ∀ a, 75 ≤ a → a ≤ 77 → nM_sheet (nX_sheet σ (i : Int) q n) (i : Int) q n a j = σ a j := fun a h1 h2 => by
          rw [g, if_neg (by omega), if_neg (by omega), if_neg (by omega), if_neg (by omega), if_neg (by omega), if_neg (by omega), if_neg (by omega)]
        rw [gm 75 (by omega) (by omega), gm 76 (by omega) (by omega), gm 77 (by omega) (by omega)]
        exact h
    · unfold ShR
      have h := hx.2.2 j hj
      by_cases hji : j = i
      · subst hji
        have g1 : nM_sheet (nX_sheet σ (j : Int) q n) (j : Int) q n (43 + j) 1 = q := by
          rw [g, if_neg (by omega), if_neg (by omega), if_neg (by omega), if_neg (by omega), if_neg (by omega), if_neg (by omega), if_pos ⟨rfl, rfl⟩]
        have g2 : nM_sheet (nX_sheet σ (j : Int) q n) (j : Int) q n (43 + j) 2 = if q = -1 then 0 else n := by
          rw [g, if_neg (by omega), if_neg (by omega), if_neg (by omega), if_neg (by omega), if_neg (by omega), if_pos ⟨rfl, rfl⟩]
        have g3 : nM_sheet (nX_sheet σ (j : Int) q n) (j : Int) q n 75 j = if q = -1 then 0 else 1 := by
          rw [g, if_neg (by omega), if_neg (by omega), if_neg (by omega), if_pos ⟨rfl, rfl⟩]
        have g4 : nM_sheet (nX_sheet σ (j : Int) q n) (j : Int) q n 76 j = q := by
          rw [g, if_neg (by omega), if_neg (by omega), if_pos ⟨rfl, rfl⟩]
        have g5 : nM_sheet (nX_sheet σ (j : Int) q n) (j : Int) q n 77 j = n := by
          rw [g, if_neg (by omega), if_pos ⟨rfl, rfl⟩]
        rw [g1, g2, g3, g4, g5]
        by_cases hq : q = -1
        · exact Or.inl ⟨hq, if_pos hq⟩
        · refine Or.inr ⟨hq, if_neg hq, rfl, if_neg hq, fun p hp => ?_⟩
          rw [g, g, if_neg (by omega), if_neg (by omega), if_neg (by omega), if_neg (by omega), if_pos ⟨rfl, by omega⟩, if_pos ⟨rfl, hq, by omega, by omega⟩]
      · have gr : ∀ a b, (a = 43 + j ∨ a = 47 + j) → nM_sheet (nX_sheet σ (i : Int) q n) (i : Int) q n a b = σ a b := fun a b ha => by
          rw [g, if_neg (by omega), if_neg (by omega), if_neg (by omega), if_neg (by omega), if_neg (by omega), if_neg (by omega), if_neg (by omega)]
        have gm : ∀ a, 75 ≤ a → a ≤ 77 → nM_sheet (nX_sheet σ (i : Int) q n) (i : Int) q n a j = σ a j := fun a h1 h2 => by
          rw [g, if_neg (by omega), if_neg (by omega), if_neg (by omega), if_neg (by omega), if_neg (by omega), if_neg (by omega), if_neg (by omega)]
        rw [gr _ _ (Or.inl rfl), gr _ _ (Or.inl rfl), gm 75 (by omega) (by omega), gm 76 (by omega) (by omega), gm 77 (by omega) (by omega)]
        rcases h with h | ⟨h1, h2, h3, h4, h5⟩
        · exact Or.inl h
        · have h6 := (hx.2.1 j hj).2.2 h2
          refine Or.inr ⟨h1, h2, h3, h4, fun p hp => ?_⟩
          rw [gr _ _ (Or.inr rfl), h5 p hp, g, if_neg (by omega), if_neg (by omega), if_neg (by omega), if_neg (by omega), if_neg (by omega), if_neg (by omega), if_neg (by omega)]
  · have e1 : nX_sheet σ s q n = σ := by unfold nX_sheet; rw [if_neg hC]
    have e2 : nM_sheet σ s q n = σ := by unfold nM_sheet; rw [if_neg hC]
    rw [e1, e2]
    exact hR
theorem R_cell (hR : RR X tc cl σ) {s q v : Int} : rM_cell (nX_cell σ s q v) s q v = rX_cell σ s q v ∧ RR X tc cl (nM_cell (nX_cell σ s q v) s q v) := by
  have hx := hR.2.2.2.2.2.1
  have fr : ∀ a, ¬ (47 ≤ a ∧ a ≤ 50) → (nX_cell σ s q v) a = σ a := fun a ha => funext fun b => by
    unfold nX_cell
    split
    · exact up_r (by omega)
    · rfl
  by_cases hs : 0 ≤ s ∧ s < 4
  · obtain ⟨i, rfl⟩ : ∃ i : Nat, s = (i : Int) := ⟨s.toNat, by omega⟩
    have hi : i < 4 := by omega
    have hii : (i : Int).toNat = i := Int.toNat_natCast i
    rcases hx.2.2 i hi with ⟨h1, h2⟩ | ⟨h1, h2, h3, h4, h5⟩
    · have e1 : nX_cell σ (i : Int) q v = σ := by unfold nX_cell; rw [hii, if_neg (by omega)]
      have e2 : nM_cell σ (i : Int) q v = σ := by unfold nM_cell; rw [hii, if_neg (by omega)]
      rw [e1, e2]
      refine ⟨?_, hR⟩
      unfold rM_cell rX_cell
      rw [hii, if_pos hs, if_pos hs, if_pos h1, if_pos h2]
    · refine ⟨?_, ?_⟩
      · unfold rM_cell rX_cell
        rw [hii, fr 75 (by omega), fr 77 (by omega), if_pos hs, if_pos hs, if_neg h1, if_neg (by omega), h4]
      · by_cases hq : 0 ≤ q ∧ q < σ 77 i
        · have h6 := (hx.2.1 i hi).2.2 h2
          obtain ⟨p, rfl⟩ : ∃ p : Nat, q = (p : Int) := ⟨q.toNat, by omega⟩
          have hpp : (p : Int).toNat = p := Int.toNat_natCast p
          have e1 : nX_cell σ (i : Int) (p : Int) v = up σ (47 + i) p (sortZ (σ 76 i) v) := by
            unfold nX_cell; rw [hii, hpp, if_pos ⟨hs.1, hs.2, h1, hq.1, by omega⟩, h3]
          have e2 : nM_cell (nX_cell σ (i : Int) (p : Int) v) (i : Int) (p : Int) v = up (up σ (47 + i) p (sortZ (σ 76 i) v)) 78 (40 * i + p) (sortZ (σ 76 i) v) := by
            unfold nM_cell
            rw [hii, hpp, fr 75 (by omega), fr 77 (by omega), fr 76 (by omega), e1, if_pos ⟨hs.1, hs.2, by omega, hq.1, hq.2⟩]
          rw [e2]
          refine RR_sheets hR (fun a g1 g2 => by rw [up_row (by omega), up_row (by omega)]) ⟨fun j hj => ?_, fun j hj => ?_, fun j hj => ?_⟩
          · rw [up_r (by omega), up_r (by omega), up_r (by omega), up_r (by omega)]; exact hx.1 j hj
          · rw [up_r (by omega), up_r (by omega), up_r (by omega), up_r (by omega), up_r (by omega), up_r (by omega)]; exact hx.2.1 j hj
          · unfold ShR
            have u1 : ∀ b, (up (up σ (47 + i) p (sortZ (σ 76 i) v)) 78 (40 * i + p) (sortZ (σ 76 i) v)) (43 + j) b = σ (43 + j) b := fun b => by rw [up_r (by omega), up_r (by omega)]
            have u2 : ∀ a b, 75 ≤ a → a ≤ 77 → (up (up σ (47 + i) p (sortZ (σ 76 i) v)) 78 (40 * i + p) (sortZ (σ 76 i) v)) a b = σ a b := fun a b g1 g2 => by rw [up_r (by omega), up_r (by omega)]
            rw [u1, u1, u2 75 j (by omega) (by omega), u2 76 j (by omega) (by omega), u2 77 j (by omega) (by omega)]
            rcases hx.2.2 j hj with h | ⟨k1, k2, k3, k4, k5⟩
            · exact Or.inl h
            · have k6 := (hx.2.1 j hj).2.2 k2
              refine Or.inr ⟨k1, k2, k3, k4, fun b hb => ?_⟩
              rw [up_r (by omega)]
              by_cases hji : j = i
              · subst hji
                by_cases hbp : b = p
                · subst hbp; rw [up_s, up_s]
                · rw [up_i hbp, up_i (by omega), up_r (by omega)]; exact k5 b hb
              · rw [up_r (by omega), up_i (by omega), up_r (by omega)]; exact k5 b hb
        · have e1 : nX_cell σ (i : Int) q v = σ := by unfold nX_cell; rw [hii, if_neg (by omega)]
          have e2 : nM_cell σ (i : Int) q v = σ := by unfold nM_cell; rw [hii, if_neg (by omega)]
          rw [e1, e2]
          exact hR
  · have e1 : nX_cell σ s q v = σ := by unfold nX_cell; rw [if_neg (by omega)]
    have e2 : nM_cell σ s q v = σ := by unfold nM_cell; rw [if_neg (by omega)]
    rw [e1, e2]
    refine ⟨?_, hR⟩
    unfold rM_cell rX_cell
    rw [if_neg hs, if_neg hs]
end RM2