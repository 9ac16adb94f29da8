/-! changes of the town, in both halves alike -/
theorem mT_u55 {σ : Sig} {i : Nat} {v : Int} : mT (up σ 55 i v) = up (mT σ) 2 i v := by
  funext a b
  by_cases ha : a = 2
  · subst ha; rfl
  · rw [up_r ha]
    match a, ha with
    | 0, _ => rfl
    | 1, _ => rfl
    | 2, h => exact absurd rfl h
    | 3, _ => rfl
    | 4, _ => rfl
    | 5, _ => rfl
    | 6, _ => rfl
    | 7, _ => rfl
    | 8, _ => rfl
    | 9, _ => rfl
    | 10, _ => rfl
    | n + 11, _ => rfl
theorem mT_u57 {σ : Sig} {i : Nat} {v : Int} : mT (up σ 57 i v) = up (mT σ) 3 i v := by
  funext a b
  by_cases ha : a = 3
  · subst ha; rfl
  · rw [up_r ha]
    match a, ha with
    | 0, _ => rfl
    | 1, _ => rfl
    | 2, _ => rfl
    | 3, h => exact absurd rfl h
    | 4, _ => rfl
    | 5, _ => rfl
    | 6, _ => rfl
    | 7, _ => rfl
    | 8, _ => rfl
    | 9, _ => rfl
    | 10, _ => rfl
    | n + 11, _ => rfl
theorem mT_u58 {σ : Sig} {i : Nat} {v : Int} : mT (up σ 58 i v) = up (mT σ) 4 i v := by
  funext a b
  by_cases ha : a = 4
  · subst ha; rfl
  · rw [up_r ha]
    match a, ha with
    | 0, _ => rfl
    | 1, _ => rfl
    | 2, _ => rfl
    | 3, _ => rfl
    | 4, h => exact absurd rfl h
    | 5, _ => rfl
    | 6, _ => rfl
    | 7, _ => rfl
    | 8, _ => rfl
    | 9, _ => rfl
    | 10, _ => rfl
    | n + 11, _ => rfl
theorem mT_u59 {σ : Sig} {i : Nat} {v : Int} : mT (up σ 59 i v) = up (mT σ) 5 i v := by
  funext a b
  by_cases ha : a = 5
  · subst ha; rfl
  · rw [up_r ha]
    match a, ha with
    | 0, _ => rfl
    | 1, _ => rfl
    | 2, _ => rfl
    | 3, _ => rfl
    | 4, _ => rfl
    | 5, h => exact absurd rfl h
    | 6, _ => rfl
    | 7, _ => rfl
    | 8, _ => rfl
    | 9, _ => rfl
    | 10, _ => rfl
    | n + 11, _ => rfl
theorem mT_u56 {σ : Sig} {i : Nat} {v : Int} : mT (up σ 56 i v) = up (mT σ) 6 i v := by
  funext a b
  by_cases ha : a = 6
  · subst ha; rfl
  · rw [up_r ha]
    match a, ha with
    | 0, _ => rfl
    | 1, _ => rfl
    | 2, _ => rfl
    | 3, _ => rfl
    | 4, _ => rfl
    | 5, _ => rfl
    | 6, h => exact absurd rfl h
    | 7, _ => rfl
    | 8, _ => rfl
    | 9, _ => rfl
    | 10, _ => rfl
    | n + 11, _ => rfl
theorem mT_u60 {σ : Sig} {i : Nat} {v : Int} : mT (up σ 60 i v) = up (mT σ) 7 i v := by
  funext a b
  by_cases ha : a = 7
  · subst ha; rfl
  · rw [up_r ha]
    match a, ha with
    | 0, _ => rfl
    | 1, _ => rfl
    | 2, _ => rfl
    | 3, _ => rfl
    | 4, _ => rfl
    | 5, _ => rfl
    | 6, _ => rfl
    | 7, h => exact absurd rfl h
    | 8, _ => rfl
    | 9, _ => rfl
    | 10, _ => rfl
    | n + 11, _ => rfl
theorem mT_u61 {σ : Sig} {i : Nat} {v : Int} : mT (up σ 61 i v) = up (mT σ) 8 i v := by
  funext a b
  by_cases ha : a = 8
  · subst ha; rfl
  · rw [up_r ha]
    match a, ha with
    | 0, _ => rfl
    | 1, _ => rfl
    | 2, _ => rfl
    | 3, _ => rfl
    | 4, _ => rfl
    | 5, _ => rfl
    | 6, _ => rfl
    | 7, _ => rfl
    | 8, h => exact absurd rfl h
    | 9, _ => rfl
    | 10, _ => rfl
    | n + 11, _ => rfl
theorem mT_u62 {σ : Sig} {i : Nat} {v : Int} : mT (up σ 62 i v) = up (mT σ) 9 i v := by
  funext a b
  by_cases ha : a = 9
  · subst ha; rfl
  · rw [up_r ha]
    match a, ha with
    | 0, _ => rfl
    | 1, _ => rfl
    | 2, _ => rfl
    | 3, _ => rfl
    | 4, _ => rfl
    | 5, _ => rfl
    | 6, _ => rfl
    | 7, _ => rfl
    | 8, _ => rfl
    | 9, h => exact absurd rfl h
    | 10, _ => rfl
    | n + 11, _ => rfl
theorem mT_u63 {σ : Sig} {i : Nat} {v : Int} : mT (up σ 63 i v) = up (mT σ) 10 i v := by
  funext a b
  by_cases ha : a = 10
  · subst ha; rfl
  · rw [up_r ha]
    match a, ha with
    | 0, _ => rfl
    | 1, _ => rfl
    | 2, _ => rfl
    | 3, _ => rfl
    | 4, _ => rfl
    | 5, _ => rfl
    | 6, _ => rfl
    | 7, _ => rfl
    | 8, _ => rfl
    | 9, _ => rfl
    | 10, h => exact absurd rfl h
    | n + 11, _ => rfl
theorem mT_f8 {σ : Sig} {v : Int} : mT (up σ 51 8 v) = up (mT σ) 1 1 v := by
  funext a b
  by_cases ha : a = 1
  · subst ha
    match b with
    | 0 => rfl
    | 1 => rfl
    | 2 => rfl
    | 3 => rfl
    | 4 => rfl
    | 5 => rfl
    | 6 => rfl
    | 7 => rfl
    | 8 => rfl
    | n + 9 => rfl
  · rw [up_r ha]
    match a, ha with
    | 0, _ => rfl
    | 1, h => exact absurd rfl h
    | 2, _ => rfl
    | 3, _ => rfl
    | 4, _ => rfl
    | 5, _ => rfl
    | 6, _ => rfl
    | 7, _ => rfl
    | 8, _ => rfl
    | 9, _ => rfl
    | 10, _ => rfl
    | n + 11, _ => rfl
theorem mT_f4 {σ : Sig} {v : Int} : mT (up σ 51 4 v) = up (mT σ) 1 2 v := by
  funext a b
  by_cases ha : a = 1
  · subst ha
    match b with
    | 0 => rfl
    | 1 => rfl
    | 2 => rfl
    | 3 => rfl
    | 4 => rfl
    | 5 => rfl
    | 6 => rfl
    | 7 => rfl
    | 8 => rfl
    | n + 9 => rfl
  · rw [up_r ha]
    match a, ha with
    | 0, _ => rfl
    | 1, h => exact absurd rfl h
    | 2, _ => rfl
    | 3, _ => rfl
    | 4, _ => rfl
    | 5, _ => rfl
    | 6, _ => rfl
    | 7, _ => rfl
    | 8, _ => rfl
    | 9, _ => rfl
    | 10, _ => rfl
    | n + 11, _ => rfl
theorem mT_f13 {σ : Sig} {v : Int} : mT (up σ 51 13 v) = up (mT σ) 1 3 v := by
  funext a b
  by_cases ha : a = 1
  · subst ha
    match b with
    | 0 => rfl
    | 1 => rfl
    | 2 => rfl
    | 3 => rfl
    | 4 => rfl
    | 5 => rfl
    | 6 => rfl
    | 7 => rfl
    | 8 => rfl
    | n + 9 => rfl
  · rw [up_r ha]
    match a, ha with
    | 0, _ => rfl
    | 1, h => exact absurd rfl h
    | 2, _ => rfl
    | 3, _ => rfl
    | 4, _ => rfl
    | 5, _ => rfl
    | 6, _ => rfl
    | 7, _ => rfl
    | 8, _ => rfl
    | 9, _ => rfl
    | 10, _ => rfl
    | n + 11, _ => rfl
theorem mT_f18 {σ : Sig} {v : Int} : mT (up σ 51 18 v) = up (mT σ) 1 8 v := by
  funext a b
  by_cases ha : a = 1
  · subst ha
    match b with
    | 0 => rfl
    | 1 => rfl
    | 2 => rfl
    | 3 => rfl
    | 4 => rfl
    | 5 => rfl
    | 6 => rfl
    | 7 => rfl
    | 8 => rfl
    | n + 9 => rfl
  · rw [up_r ha]
    match a, ha with
    | 0, _ => rfl
    | 1, h => exact absurd rfl h
    | 2, _ => rfl
    | 3, _ => rfl
    | 4, _ => rfl
    | 5, _ => rfl
    | 6, _ => rfl
    | 7, _ => rfl
    | 8, _ => rfl
    | 9, _ => rfl
    | 10, _ => rfl
    | n + 11, _ => rfl
theorem TI_u2 {T : Sig} {c : Nat} {v : Int} (h : TI T) (hv : 0 ≤ v ∧ v ≤ 9) : TI (up T 2 c v) := by
  obtain ⟨h1, h2, h3, h4, h5⟩ := h
  refine ⟨h1, h2, h3, h4, fun i => ?_⟩
  obtain ⟨a0, a1, a2, a3, a4, a5, a6, a7, a8⟩ := h5 i
  refine ⟨?_, a1, a2, a3, a4, a5, a6, a7, a8⟩
  by_cases hi : i = c
  · subst hi; rw [up_s]; exact hv
  · rw [up_i hi]; exact a0
theorem TI_u3 {T : Sig} {c : Nat} {v : Int} (h : TI T) (hv : 0 ≤ v ∧ v ≤ 35) : TI (up T 3 c v) := by
  obtain ⟨h1, h2, h3, h4, h5⟩ := h
  refine ⟨h1, h2, h3, h4, fun i => ?_⟩
  obtain ⟨a0, a1, a2, a3, a4, a5, a6, a7, a8⟩ := h5 i
  refine ⟨a0, ?_, a2, a3, a4, a5, a6, a7, a8⟩
  by_cases hi : i = c
  · subst hi; rw [up_s]; exact hv
  · rw [up_i hi]; exact a1
theorem TI_u4 {T : Sig} {c : Nat} {v : Int} (h : TI T) (hv : 0 ≤ v ∧ v ≤ 99) : TI (up T 4 c v) := by
  obtain ⟨h1, h2, h3, h4, h5⟩ := h
  refine ⟨h1, h2, h3, h4, fun i => ?_⟩
  obtain ⟨a0, a1, a2, a3, a4, a5, a6, a7, a8⟩ := h5 i
  refine ⟨a0, a1, ?_, a3, a4, a5, a6, a7, a8⟩
  by_cases hi : i = c
  · subst hi; rw [up_s]; exact hv
  · rw [up_i hi]; exact a2
theorem TI_u5 {T : Sig} {c : Nat} {v : Int} (h : TI T) (hv : 0 ≤ v ∧ v ≤ 9) : TI (up T 5 c v) := by
  obtain ⟨h1, h2, h3, h4, h5⟩ := h
  refine ⟨h1, h2, h3, h4, fun i => ?_⟩
  obtain ⟨a0, a1, a2, a3, a4, a5, a6, a7, a8⟩ := h5 i
  refine ⟨a0, a1, a2, ?_, a4, a5, a6, a7, a8⟩
  by_cases hi : i = c
  · subst hi; rw [up_s]; exact hv
  · rw [up_i hi]; exact a3
theorem TI_u6 {T : Sig} {c : Nat} {v : Int} (h : TI T) (hv : 0 ≤ v ∧ v ≤ 5) : TI (up T 6 c v) := by
  obtain ⟨h1, h2, h3, h4, h5⟩ := h
  refine ⟨h1, h2, h3, h4, fun i => ?_⟩
  obtain ⟨a0, a1, a2, a3, a4, a5, a6, a7, a8⟩ := h5 i
  refine ⟨a0, a1, a2, a3, ?_, a5, a6, a7, a8⟩
  by_cases hi : i = c
  · subst hi; rw [up_s]; exact hv
  · rw [up_i hi]; exact a4
theorem TI_u7 {T : Sig} {c : Nat} {v : Int} (h : TI T) (hv : 0 ≤ v ∧ v ≤ 35) : TI (up T 7 c v) := by
  obtain ⟨h1, h2, h3, h4, h5⟩ := h
  refine ⟨h1, h2, h3, h4, fun i => ?_⟩
  obtain ⟨a0, a1, a2, a3, a4, a5, a6, a7, a8⟩ := h5 i
  refine ⟨a0, a1, a2, a3, a4, ?_, a6, a7, a8⟩
  by_cases hi : i = c
  · subst hi; rw [up_s]; exact hv
  · rw [up_i hi]; exact a5
theorem TI_u8 {T : Sig} {c : Nat} {v : Int} (h : TI T) (hv : 0 ≤ v ∧ v ≤ 3) : TI (up T 8 c v) := by
  obtain ⟨h1, h2, h3, h4, h5⟩ := h
  refine ⟨h1, h2, h3, h4, fun i => ?_⟩
  obtain ⟨a0, a1, a2, a3, a4, a5, a6, a7, a8⟩ := h5 i
  refine ⟨a0, a1, a2, a3, a4, a5, ?_, a7, a8⟩
  by_cases hi : i = c
  · subst hi; rw [up_s]; exact hv
  · rw [up_i hi]; exact a6
theorem TI_u9 {T : Sig} {c : Nat} {v : Int} (h : TI T) (hv : 0 ≤ v ∧ v ≤ 23) : TI (up T 9 c v) := by
  obtain ⟨h1, h2, h3, h4, h5⟩ := h
  refine ⟨h1, h2, h3, h4, fun i => ?_⟩
  obtain ⟨a0, a1, a2, a3, a4, a5, a6, a7, a8⟩ := h5 i
  refine ⟨a0, a1, a2, a3, a4, a5, a6, ?_, a8⟩
  by_cases hi : i = c
  · subst hi; rw [up_s]; exact hv
  · rw [up_i hi]; exact a7
theorem TI_u10 {T : Sig} {c : Nat} {v : Int} (h : TI T) (hv : 0 ≤ v ∧ v ≤ 99) : TI (up T 10 c v) := by
  obtain ⟨h1, h2, h3, h4, h5⟩ := h
  refine ⟨h1, h2, h3, h4, fun i => ?_⟩
  obtain ⟨a0, a1, a2, a3, a4, a5, a6, a7, a8⟩ := h5 i
  refine ⟨a0, a1, a2, a3, a4, a5, a6, a7, ?_⟩
  by_cases hi : i = c
  · subst hi; rw [up_s]; exact hv
  · rw [up_i hi]; exact a8
theorem TI_f1 {T : Sig} {v : Int} (h : TI T) (hv : 0 ≤ v ∧ v ≤ 9) : TI (up T 1 1 v) := by
  obtain ⟨h1, h2, h3, h4, h5⟩ := h
  exact ⟨by rw [up_s]; exact hv, h2, h3, h4, h5⟩
theorem TI_f2 {T : Sig} {v : Int} (h : TI T) (hv : 0 ≤ v ∧ v ≤ 5) : TI (up T 1 2 v) := by
  obtain ⟨h1, h2, h3, h4, h5⟩ := h
  exact ⟨h1, by rw [up_s]; exact hv, h3, h4, h5⟩
theorem TI_f3 {T : Sig} {v : Int} (h : TI T) (hv : 0 ≤ v ∧ v ≤ 6) : TI (up T 1 3 v) := by
  obtain ⟨h1, h2, h3, h4, h5⟩ := h
  exact ⟨h1, h2, by rw [up_s]; exact hv, h4, h5⟩
theorem TI_f8 {T : Sig} {v : Int} (h : TI T) (hv : 0 ≤ v ∧ v ≤ 5) : TI (up T 1 8 v) := by
  obtain ⟨h1, h2, h3, h4, h5⟩ := h
  exact ⟨h1, h2, h3, by rw [up_s]; exact hv, h5⟩
theorem cT_f2 {T : Sig} {v : Int} : cT (up T 1 2 v) = up (cT T) 1 2 v := by
  funext a b
  by_cases ha : a = 1
  · subst ha
    by_cases hb : b = 2
    · subst hb; rfl
    · rw [up_i hb]
      show (if b = 1 ∨ b = 2 ∨ b = 3 ∨ b = 8 then up T 1 2 v 1 b else 0) = _
      rw [up_i hb]
      rfl
  · rw [up_r ha]
    match a, ha with
    | 0, _ => rfl
    | 1, h => exact absurd rfl h
    | 2, _ => rfl
    | 3, _ => rfl
    | 4, _ => rfl
    | 5, _ => rfl
    | 6, _ => rfl
    | 7, _ => rfl
    | 8, _ => rfl
    | 9, _ => rfl
    | 10, _ => rfl
    | n + 11, _ => rfl
theorem cT_town {T : Sig} {a b c : Int} : cT (nX_town T a b c) = nX_town (cT T) a b c := by
  unfold nX_town
  by_cases h1 : a = 0 ∧ 0 ≤ b ∧ b < 36 ∧ 0 ≤ c ∧ c ≤ 9
  · rw [if_pos h1, if_pos h1]; exact cT_up2
  · rw [if_neg h1, if_neg h1]
    by_cases h2 : a = 1 ∧ 0 ≤ c ∧ c ≤ 9
    · rw [if_pos h2, if_pos h2]; exact cT_up1
    · rw [if_neg h2, if_neg h2]
theorem mT_town {σ : Sig} {a b c : Int} : mT (nM_town σ a b c) = nX_town (mT σ) a b c := by
  unfold nX_town nM_town
  by_cases h1 : a = 0 ∧ 0 ≤ b ∧ b < 36 ∧ 0 ≤ c ∧ c ≤ 9
  · rw [if_pos h1, if_pos h1]; exact mT_u55
  · rw [if_neg h1, if_neg h1]
    by_cases h2 : a = 1 ∧ 0 ≤ c ∧ c ≤ 9
    · rw [if_pos h2, if_pos h2]; exact mT_f8
    · rw [if_neg h2, if_neg h2]
theorem TI_town {T : Sig} {a b c : Int} (hT : TI T) : TI (nX_town T a b c) := by
  unfold nX_town
  split
  · exact TI_u2 hT (by omega)
  · split
    · exact TI_f1 hT (by omega)
    · exact hT
theorem rX_town_c {T : Sig} {a b c : Int} : rX_town (cT T) a b c = rX_town T a b c := rfl
theorem rM_town_m {σ : Sig} {a b c : Int} : rM_town σ a b c = rX_town (mT σ) a b c := rfl
theorem cT_thing {T : Sig} {k h w : Int} (hT : TI T) : cT (nX_thing T k h w) = nX_thing (cT T) k h w := by
  have h3 := hT.2.2.1
  unfold nX_thing
  rw [show cT T 1 3 = T 1 3 from rfl]
  by_cases hP : 0 ≤ k ∧ k ≤ 5 ∧ 0 ≤ h ∧ h ≤ 35 ∧ 0 ≤ w ∧ w ≤ 999
  · rw [if_pos hP, if_pos hP]
    by_cases h6 : T 1 3 < 6
    · rw [if_pos h6, if_pos h6]
      funext a b
      match a with
      | 0 => rfl
      | 2 => rfl
      | 3 => rfl
      | 4 => rfl
      | 5 => rfl
      | 7 => rfl
      | 8 => rfl
      | 9 => rfl
      | 10 => rfl
      | 1 =>
        by_cases hb : b = 3
        · subst hb; rfl
        · rw [up_i hb]
          show (if b = 1 ∨ b = 2 ∨ b = 3 ∨ b = 8 then up _ 1 3 (T 1 3 + 1) 1 b else 0) = _
          rw [up_i hb]
          rfl
      | 6 =>
        show (if (b : Int) < T 1 3 + 1 then (if b = (T 1 3).toNat then k else T 6 b) else 0) = (if b = (T 1 3).toNat then k else (if (b : Int) < T 1 3 then T 6 b else 0))
        by_cases hb : b = (T 1 3).toNat
        · rw [if_pos hb, if_pos hb, if_pos (by omega)]
        · rw [if_neg hb, if_neg hb]
          by_cases hb2 : (b : Int) < T 1 3
          · rw [if_pos hb2, if_pos (by omega)]
          · rw [if_neg hb2, if_neg (by omega)]
      | n + 11 => rfl
    · rw [if_neg h6, if_neg h6]
  · rw [if_neg hP, if_neg hP]
theorem cT_sleeper {T : Sig} {c w g : Int} (hT : TI T) : cT (nX_sleeper T c w g) = nX_sleeper (cT T) c w g := by
  have h8 := hT.2.2.2.1
  unfold nX_sleeper
  rw [show cT T 1 8 = T 1 8 from rfl]
  by_cases hP : 0 ≤ c ∧ c ≤ 35 ∧ 0 ≤ w ∧ w / 10 ≤ 23 ∧ w % 10 ≤ 3 ∧ 0 ≤ g ∧ g ≤ 99
  · rw [if_pos hP, if_pos hP]
    by_cases h6 : T 1 8 < 5
    · rw [if_pos h6, if_pos h6]
      funext a b
      match a with
      | 0 => rfl
      | 2 => rfl
      | 3 => rfl
      | 4 => rfl
      | 5 => rfl
      | 6 => rfl
      | 7 => rfl
      | 8 => rfl
      | 9 => rfl
      | 1 =>
        by_cases hb : b = 8
        · subst hb; rfl
        · rw [up_i hb]
          show (if b = 1 ∨ b = 2 ∨ b = 3 ∨ b = 8 then up _ 1 8 (T 1 8 + 1) 1 b else 0) = _
          rw [up_i hb]
          rfl
      | 10 =>
        show (if (b : Int) < T 1 8 + 1 then (if b = (T 1 8).toNat then g else T 10 b) else 0) = (if b = (T 1 8).toNat then g else (if (b : Int) < T 1 8 then T 10 b else 0))
        by_cases hb : b = (T 1 8).toNat
        · rw [if_pos hb, if_pos hb, if_pos (by omega)]
        · rw [if_neg hb, if_neg hb]
          by_cases hb2 : (b : Int) < T 1 8
          · rw [if_pos hb2, if_pos (by omega)]
          · rw [if_neg hb2, if_neg (by omega)]
      | n + 11 => rfl
    · rw [if_neg h6, if_neg h6]
  · rw [if_neg hP, if_neg hP]
theorem up_comm {σ : Sig} {r r' i j : Nat} {v w : Int} (h : r ≠ r') : up (up σ r i v) r' j w = up (up σ r' j w) r i v := by
  funext a b
  by_cases h1 : a = r
  · subst h1
    rw [up_r h]
    by_cases h2 : b = i
    · subst h2; rw [up_s, up_s]
    · rw [up_i h2, up_i h2, up_r h]
  · rw [up_r (r := r) h1]
    by_cases h2 : a = r'
    · subst h2
      by_cases h3 : b = j
      · subst h3; rw [up_s, up_s]
      · rw [up_i h3, up_i h3, up_r h1]
    · rw [up_r h2, up_r h2, up_r h1]
theorem mT_thing {σ : Sig} {k h w : Int} : mT (nM_thing σ k h w) = nX_thing (mT σ) k h w := by
  unfold nX_thing nM_thing
  rw [show mT σ 1 3 = σ 51 13 from rfl]
  split
  · split
    · rw [mT_f13, mT_u59, mT_u58, mT_u57, mT_u56]
    · rfl
  · rfl
theorem mT_sleeper {σ : Sig} {c w g : Int} : mT (nM_sleeper σ c w g) = nX_sleeper (mT σ) c w g := by
  unfold nX_sleeper nM_sleeper
  rw [show mT σ 1 8 = σ 51 18 from rfl]
  split
  · split
    · rw [mT_f18, mT_u63, mT_u62, mT_u61, mT_u60]
      rw [up_comm (r := 8) (r' := 9) (by decide)]
    · rfl
  · rfl
theorem TI_thing {T : Sig} {k h w : Int} (hT : TI T) : TI (nX_thing T k h w) := by
  have h3 := hT.2.2.1
  unfold nX_thing
  split
  · split
    · exact TI_f3 (TI_u5 (TI_u4 (TI_u3 (TI_u6 hT (by omega)) (by omega)) (by omega)) (by omega)) (by omega)
    · exact hT
  · exact hT
theorem TI_sleeper {T : Sig} {c w g : Int} (hT : TI T) : TI (nX_sleeper T c w g) := by
  have h8 := hT.2.2.2.1
  unfold nX_sleeper
  split
  · split
    · exact TI_f8 (TI_u10 (TI_u8 (TI_u9 (TI_u7 hT (by omega)) (by omega)) (by omega)) (by omega)) (by omega)
    · exact hT
  · exact hT
theorem rX_thing_c {T : Sig} {a b c : Int} : rX_thing (cT T) a b c = rX_thing T a b c := rfl
theorem rM_thing_m {σ : Sig} {a b c : Int} : rM_thing σ a b c = rX_thing (mT σ) a b c := rfl
theorem rX_sleeper_c {T : Sig} {a b c : Int} : rX_sleeper (cT T) a b c = rX_sleeper T a b c := rfl
theorem rM_sleeper_m {σ : Sig} {a b c : Int} : rM_sleeper σ a b c = rX_sleeper (mT σ) a b c := rfl
/-- what may be set, row by row -/
theorem set_rows {q : Int} (h : 0 ≤ q ∧ q ≤ 5) : (q = 0 ∧ 3 + (if q ≤ 2 then q else q + 1).toNat = 3 ∧ 57 + q.toNat = 57 ∧ mostF (if q ≤ 2 then q else q + 1) = 35) ∨ (q = 1 ∧ 3 + (if q ≤ 2 then q else q + 1).toNat = 4 ∧ 57 + q.toNat = 58 ∧ mostF (if q ≤ 2 then q else q + 1) = 99) ∨ (q = 2 ∧ 3 + (if q ≤ 2 then q else q + 1).toNat = 5 ∧ 57 + q.toNat = 59 ∧ mostF (if q ≤ 2 then q else q + 1) = 9) ∨ (q = 3 ∧ 3 + (if q ≤ 2 then q else q + 1).toNat = 7 ∧ 57 + q.toNat = 60 ∧ mostF (if q ≤ 2 then q else q + 1) = 35) ∨ (q = 4 ∧ 3 + (if q ≤ 2 then q else q + 1).toNat = 8 ∧ 57 + q.toNat = 61 ∧ mostF (if q ≤ 2 then q else q + 1) = 3) ∨ (q = 5 ∧ 3 + (if q ≤ 2 then q else q + 1).toNat = 9 ∧ 57 + q.toNat = 62 ∧ mostF (if q ≤ 2 then q else q + 1) = 23) := by
  rcases (show q = 0 ∨ q = 1 ∨ q = 2 ∨ q = 3 ∨ q = 4 ∨ q = 5 by omega) with rfl | rfl | rfl | rfl | rfl | rfl <;> decide
theorem cT_set {T : Sig} {q f v : Int} : cT (nX_set T q f v) = nX_set (cT T) q f v := by
  unfold nX_set
  rw [show cT T 1 3 = T 1 3 from rfl, show cT T 1 8 = T 1 8 from rfl]
  by_cases h : 0 ≤ q ∧ q ≤ 5 ∧ 0 ≤ f ∧ f < (if q ≤ 2 then T 1 3 else T 1 8) ∧ 0 ≤ v ∧ v ≤ mostF (if q ≤ 2 then q else q + 1)
  · rw [if_pos h, if_pos h]
    rcases set_rows ⟨h.1, h.2.1⟩ with ⟨_, h, _⟩ | ⟨_, h, _⟩ | ⟨_, h, _⟩ | ⟨_, h, _⟩ | ⟨_, h, _⟩ | ⟨_, h, _⟩ <;> rw [h]
    · exact cT_up3
    · exact cT_up4
    · exact cT_up5
    · exact cT_up7
    · exact cT_up8
    · exact cT_up9
  · rw [if_neg h, if_neg h]
theorem mT_set {σ : Sig} {q f v : Int} : mT (nM_set σ q f v) = nX_set (mT σ) q f v := by
  unfold nX_set nM_set
  rw [show mT σ 1 3 = σ 51 13 from rfl, show mT σ 1 8 = σ 51 18 from rfl]
  by_cases h : 0 ≤ q ∧ q ≤ 5 ∧ 0 ≤ f ∧ f < (if q ≤ 2 then σ 51 13 else σ 51 18) ∧ 0 ≤ v ∧ v ≤ mostF (if q ≤ 2 then q else q + 1)
  · rw [if_pos h, if_pos h]
    rcases set_rows ⟨h.1, h.2.1⟩ with ⟨_, h, h2, _⟩ | ⟨_, h, h2, _⟩ | ⟨_, h, h2, _⟩ | ⟨_, h, h2, _⟩ | ⟨_, h, h2, _⟩ | ⟨_, h, h2, _⟩ <;> rw [h, h2]
    · exact mT_u57
    · exact mT_u58
    · exact mT_u59
    · exact mT_u60
    · exact mT_u61
    · exact mT_u62
  · rw [if_neg h, if_neg h]
theorem TI_set {T : Sig} {q f v : Int} (hT : TI T) : TI (nX_set T q f v) := by
  unfold nX_set
  by_cases h : 0 ≤ q ∧ q ≤ 5 ∧ 0 ≤ f ∧ f < (if q ≤ 2 then T 1 3 else T 1 8) ∧ 0 ≤ v ∧ v ≤ mostF (if q ≤ 2 then q else q + 1)
  · rw [if_pos h]
    obtain ⟨h1, h2, h3, h4, h5, h6⟩ := h
    rcases set_rows ⟨h1, h2⟩ with ⟨_, h, _, hm⟩ | ⟨_, h, _, hm⟩ | ⟨_, h, _, hm⟩ | ⟨_, h, _, hm⟩ | ⟨_, h, _, hm⟩ | ⟨_, h, _, hm⟩ <;> rw [h] <;> rw [hm] at h6
    · exact TI_u3 hT ⟨h5, h6⟩
    · exact TI_u4 hT ⟨h5, h6⟩
    · exact TI_u5 hT ⟨h5, h6⟩
    · exact TI_u7 hT ⟨h5, h6⟩
    · exact TI_u8 hT ⟨h5, h6⟩
    · exact TI_u9 hT ⟨h5, h6⟩
  · rw [if_neg h]; exact hT
theorem rX_set_c {T : Sig} {q f v : Int} : rX_set (cT T) q f v = rX_set T q f v := by
  unfold rX_set
  rw [show cT T 1 3 = T 1 3 from rfl, show cT T 1 8 = T 1 8 from rfl]
  by_cases h : 0 ≤ q ∧ q ≤ 5 ∧ 0 ≤ f ∧ f < (if q ≤ 2 then T 1 3 else T 1 8) ∧ 0 ≤ v ∧ v ≤ mostF (if q ≤ 2 then q else q + 1)
  · rw [if_pos h, if_pos h]
    rcases set_rows ⟨h.1, h.2.1⟩ with ⟨_, h, _⟩ | ⟨_, h, _⟩ | ⟨_, h, _⟩ | ⟨_, h, _⟩ | ⟨_, h, _⟩ | ⟨_, h, _⟩ <;> rw [h] <;> rfl
  · rw [if_neg h, if_neg h]
theorem rM_set_m {σ : Sig} {q f v : Int} : rM_set σ q f v = rX_set (mT σ) q f v := by
  unfold rX_set rM_set
  rw [show mT σ 1 3 = σ 51 13 from rfl, show mT σ 1 8 = σ 51 18 from rfl]
  by_cases h : 0 ≤ q ∧ q ≤ 5 ∧ 0 ≤ f ∧ f < (if q ≤ 2 then σ 51 13 else σ 51 18) ∧ 0 ≤ v ∧ v ≤ mostF (if q ≤ 2 then q else q + 1)
  · rw [if_pos h, if_pos h]
    rcases set_rows ⟨h.1, h.2.1⟩ with ⟨_, h, h2, _⟩ | ⟨_, h, h2, _⟩ | ⟨_, h, h2, _⟩ | ⟨_, h, h2, _⟩ | ⟨_, h, h2, _⟩ | ⟨_, h, h2, _⟩ <;> rw [h, h2] <;> rfl
  · rw [if_neg h, if_neg h]
section RMK
variable {X : Nat → RuT} {tc : Nat} {cl : Nat → Nat} {σ σ' σ1 σ2 : Sig}
/-- the texts stay -/
def Itx (a b : Nat) : Prop := (a = 0 ∧ b = 6) ∨ (a = 51 ∧ b = 3) ∨ a = 52 ∨ a = 53 ∨ (79 ≤ a ∧ a ≤ 96 ∧ a % 3 ≠ 0)
theorem RR_mk (hR : RR X tc cl σ) (t1 : TI σ') (t2 : MI σ') (hT : cT σ' = cM σ') (r1 : σ' 1 2 < tc) (r2 : σ' 51 4 < tc) (k : ∀ a b, Itx a b → σ' a b = σ a b) (hV : KV X tc σ') (hP : TPR σ') (hS : SI σ' ∧ MS σ' ∧ ∀ i, i < 4 → ShR σ' i) (hI : IMR tc σ') : RR X tc cl σ' := by
  obtain ⟨hC, hM, _, hc, _⟩ := hR
  refine ⟨⟨t1, HC_keep hC.2.1 (fun a h1 h2 h3 => funext fun b => k a b (by unfold Itx; omega)), r1⟩, ⟨t2, HM_keep hM.2.1 (funext fun b => k 52 b (by unfold Itx; omega)) (funext fun b => k 53 b (by unfold Itx; omega)), r2, hV⟩, hT, ⟨?_, ?_, hc.2.2⟩, hP, hS, hI⟩
  · rw [k 0 6 (by unfold Itx; omega)]; exact hc.1
  · rw [k 51 3 (by unfold Itx; omega)]; exact hc.2.1
/-- the town stays -/
theorem town_keep (hR : RR X tc cl σ) (r : ∀ a, (1 ≤ a ∧ a ≤ 10) ∨ (55 ≤ a ∧ a ≤ 63) → σ' a = σ a) (r51 : ∀ b, b = 4 ∨ b = 8 ∨ b = 13 ∨ b = 18 → σ' 51 b = σ 51 b) : TI σ' ∧ MI σ' ∧ cT σ' = cM σ' ∧ σ' 1 2 < tc ∧ σ' 51 4 < tc := by
  have eM : cM σ' = cM σ := by unfold cM; rw [mT_keep (fun a h1 h2 => r a (by omega)) r51]
  refine ⟨TI_keep1 (fun a h1 h2 => r a (by omega)) hR.1.1, MI_keep (fun a h1 h2 => r a (by omega)) r51 hR.2.1.1, ?_, ?_, ?_⟩
  · rw [cT_keep1 (fun a h1 h2 => r a (by omega)), eM]; exact hR.2.2.1
  · rw [r 1 (by omega)]; exact hR.1.2.2
  · rw [r51 4 (by omega)]; exact hR.2.1.2.2.1
/-- a change of the town, that F says of both -/
theorem R_mut (hR : RR X tc cl σ) (k1 : ∀ a b, ¬ (1 ≤ a ∧ a ≤ 10) → σ1 a b = σ a b) (k2 : ∀ a b, ¬ (55 ≤ a ∧ a ≤ 63) → ¬ (a = 51 ∧ (b = 4 ∨ b = 8 ∨ b = 13 ∨ b = 18)) → σ2 a b = σ1 a b) (hT : cT σ1 = cM σ2) (t1 : TI σ1) (t2 : MI σ2) (r1 : σ1 1 2 < tc) (r2 : σ2 51 4 < tc) (h3 : σ 1 3 ≤ σ1 1 3) (h8 : σ 1 8 ≤ σ1 1 8) (h6 : ∀ b : Nat, (b : Int) < σ 1 3 → σ1 6 b = σ 6 b) (h10 : ∀ b : Nat, (b : Int) < σ 1 8 → σ1 10 b = σ 10 b) : RR X tc cl σ2 := by
  have k21 : ∀ a, a ≤ 50 → σ2 a = σ1 a := fun a ha => funext fun b => k2 a b (by omega) (by omega)
  have k12 : ∀ a, ¬ (1 ≤ a ∧ a ≤ 10) → ¬ (55 ≤ a ∧ a ≤ 63) → a ≠ 51 → σ2 a = σ a := fun a h1 h2 h3 => funext fun b => (k2 a b h2 (by omega)).trans (k1 a b h1)
  have k51 : ∀ b, b ≠ 4 → b ≠ 8 → b ≠ 13 → b ≠ 18 → σ2 51 b = σ 51 b := fun b _ _ _ _ => (k2 51 b (by omega) (by omega)).trans (k1 51 b (by omega))
  refine RR_mk hR (TI_keep1 (fun a h1 h2 => k21 a (by omega)) t1) t2 (by rw [cT_keep1 (fun a h1 h2 => k21 a (by omega))]; exact hT) (by rw [k21 1 (by omega)]; exact r1) r2 (fun a b h => ?_) (KV_keep hR.2.1.2.2.2 (k12 1064 (by omega) (by omega) (by omega)) (k12 65 (by omega) (by omega) (by omega))) (TPR_keep hR.2.2.2.2.1 (by rw [k12 28 (by omega) (by omega) (by omega)]) (k51 6 (by omega) (by omega) (by omega) (by omega)) (k12 29 (by omega) (by omega) (by omega)) (k12 54 (by omega) (by omega) (by omega))) (SHS_keep hR.2.2.2.2.2.1 (fun a ha => k12 a (by omega) (by omega) (by omega))) (IMR_keep hR.2.2.2.2.2.2 (by rw [k12 0 (by omega) (by omega) (by omega)]) (fun b h1 h2 => k51 b (by omega) (by omega) (by omega) (by omega)) (fun a ha => k12 a (by omega) (by omega) (by omega)) (by rw [k21 1 (by omega)]; exact h3) (by rw [k21 1 (by omega)]; exact h8) (fun b hb => by rw [k21 6 (by omega)]; exact h6 b hb) (fun b hb => by rw [k21 10 (by omega)]; exact h10 b hb))
  unfold Itx at h
  by_cases ha : a = 51
  · subst ha; exact k51 b (by omega) (by omega) (by omega) (by omega)
  · exact congrFun (k12 a (by omega) (by omega) ha) b
/-- the model's half, while the class's changes -/
theorem mod_keep (hR : RR X tc cl σ) (k : ∀ a b, (51 ≤ a ∧ a ≤ 78) ∨ a = 1064 → σ1 a b = σ a b) : MW X tc σ1 ∧ MS σ1 ∧ σ1 51 3 = (tc : Int) ∧ mT σ1 = mT σ := by
  have r : ∀ a, (51 ≤ a ∧ a ≤ 78) ∨ a = 1064 → σ1 a = σ a := fun a ha => funext fun b => k a b ha
  have hM := hR.2.1
  refine ⟨⟨MI_keep (fun a h1 h2 => r a (by omega)) (fun b hb => by rw [r 51 (by omega)]) hM.1, HM_keep hM.2.1 (r 52 (by omega)) (r 53 (by omega)), by rw [r 51 (by omega)]; exact hM.2.2.1, KV_keep hM.2.2.2 (r 1064 (by omega)) (r 65 (by omega))⟩, ?_, by rw [r 51 (by omega)]; exact hR.2.2.2.1.2.1, mT_keep (fun a h1 h2 => r a (by omega)) (fun b hb => by rw [r 51 (by omega)])⟩
  have h := hR.2.2.2.2.2.1.2.1
  unfold MS at h ⊢
  rw [r 75 (by omega), r 76 (by omega), r 77 (by omega)]
  exact h
end RMK
theorem fr_town {σ : Sig} {a b c : Int} : ∀ p q, ¬ (1 ≤ p ∧ p ≤ 10) → nX_town σ a b c p q = σ p q := fun p q h => by
  unfold nX_town
  split
  · exact up_r (by omega)
  · split
    · exact up_r (by omega)
    · rfl
theorem fm_town {σ : Sig} {a b c : Int} : ∀ p q, ¬ (55 ≤ p ∧ p ≤ 63) → ¬ (p = 51 ∧ (q = 4 ∨ q = 8 ∨ q = 13 ∨ q = 18)) → nM_town σ a b c p q = σ p q := fun p q h h2 => by
  unfold nM_town
  split
  · exact up_r (by omega)
  · split
    · rw [up_at2, if_neg (by omega)]
    · rfl
theorem fr_thing {σ : Sig} {k h w : Int} : ∀ p q, ¬ (1 ≤ p ∧ p ≤ 10) → nX_thing σ k h w p q = σ p q := fun p q hp => by
  unfold nX_thing
  split
  · split
    · rw [up_r (by omega), up_r (by omega), up_r (by omega), up_r (by omega), up_r (by omega)]
    · rfl
  · rfl
theorem fm_thing {σ : Sig} {k h w : Int} : ∀ p q, ¬ (55 ≤ p ∧ p ≤ 63) → ¬ (p = 51 ∧ (q = 4 ∨ q = 8 ∨ q = 13 ∨ q = 18)) → nM_thing σ k h w p q = σ p q := fun p q hp h2 => by
  unfold nM_thing
  split
  · split
    · rw [up_at2, if_neg (by omega), up_r (by omega), up_r (by omega), up_r (by omega), up_r (by omega)]
    · rfl
  · rfl
theorem fr_sleeper {σ : Sig} {c w g : Int} : ∀ p q, ¬ (1 ≤ p ∧ p ≤ 10) → nX_sleeper σ c w g p q = σ p q := fun p q hp => by
  unfold nX_sleeper
  split
  · split
    · rw [up_r (by omega), up_r (by omega), up_r (by omega), up_r (by omega), up_r (by omega)]
    · rfl
  · rfl
theorem fm_sleeper {σ : Sig} {c w g : Int} : ∀ p q, ¬ (55 ≤ p ∧ p ≤ 63) → ¬ (p = 51 ∧ (q = 4 ∨ q = 8 ∨ q = 13 ∨ q = 18)) → nM_sleeper σ c w g p q = σ p q := fun p q hp h2 => by
  unfold nM_sleeper
  split
  · split
    · rw [up_at2, if_neg (by omega), up_r (by omega), up_r (by omega), up_r (by omega), up_r (by omega)]
    · rfl
  · rfl
theorem fr_set {σ : Sig} {a b c : Int} : ∀ p q, ¬ (p = 3 ∨ p = 4 ∨ p = 5 ∨ p = 7 ∨ p = 8 ∨ p = 9) → nX_set σ a b c p q = σ p q := fun p q hp => by
  unfold nX_set
  by_cases h : 0 ≤ a ∧ a ≤ 5 ∧ 0 ≤ b ∧ b < (if a ≤ 2 then σ 1 3 else σ 1 8) ∧ 0 ≤ c ∧ c ≤ mostF (if a ≤ 2 then a else a + 1)
  · rw [if_pos h]
    rcases set_rows ⟨h.1, h.2.1⟩ with ⟨_, h, _⟩ | ⟨_, h, _⟩ | ⟨_, h, _⟩ | ⟨_, h, _⟩ | ⟨_, h, _⟩ | ⟨_, h, _⟩ <;> rw [h] <;> exact up_r (by omega)
  · rw [if_neg h]
theorem fm_set {σ : Sig} {a b c : Int} : ∀ p q, ¬ (57 ≤ p ∧ p ≤ 62) → nM_set σ a b c p q = σ p q := fun p q hp => by
  unfold nM_set
  by_cases h : 0 ≤ a ∧ a ≤ 5 ∧ 0 ≤ b ∧ b < (if a ≤ 2 then σ 51 13 else σ 51 18) ∧ 0 ≤ c ∧ c ≤ mostF (if a ≤ 2 then a else a + 1)
  · rw [if_pos h]; have := h.2.1; have := h.1; exact up_r (by omega)
  · rw [if_neg h]
theorem MI_ofT {σ : Sig} (h : TI (mT σ)) : MI σ := h
section RMUT
variable {X : Nat → RuT} {tc : Nat} {cl : Nat → Nat} {σ : Sig}
theorem mod_c (hR : RR X tc cl σ) {σ1 : Sig} (k1 : ∀ a b, ¬ (1 ≤ a ∧ a ≤ 10) → σ1 a b = σ a b) : MW X tc σ1 ∧ MS σ1 ∧ σ1 51 3 = (tc : Int) ∧ mT σ1 = mT σ := mod_keep hR (fun a b h => k1 a b (by omega))
theorem R_town (hR : RR X tc cl σ) {a b c : Int} : rM_town (nX_town σ a b c) a b c = rX_town σ a b c ∧ RR X tc cl (nM_town (nX_town σ a b c) a b c) := by
  obtain ⟨m1, m2, m3, m4⟩ := mod_c hR (fr_town (a := a) (b := b) (c := c))
  have e : cT (mT σ) = cT σ := hR.2.2.1.symm
  refine ⟨?_, R_mut hR fr_town fm_town ?_ (TI_town hR.1.1) ?_ ?_ ?_ ?_ ?_ (fun b hb => ?_) (fun b hb => ?_)⟩
  · rw [rM_town_m, m4, ← rX_town_c, e, rX_town_c]
  · show cT _ = cT (mT _)
    rw [mT_town, m4, cT_town, cT_town, e]
  · refine MI_ofT ?_
    rw [mT_town, m4]
    exact TI_town (MI_T hR.2.1.1)
  · have h := hR.1.2.2
    unfold nX_town
    split
    · rw [up_r (by decide)]; exact h
    · split
      · rw [up_i (by decide)]; exact h
      · exact h
  · have h := m1.2.2.1
    unfold nM_town
    split
    · rw [up_r (by decide)]; exact h
    · split
      · rw [up_i (by decide)]; exact h
      · exact h
  · unfold nX_town
    split
    · rw [up_r (by decide)]; exact Int.le_refl _
    · split
      · rw [up_i (by decide)]; exact Int.le_refl _
      · exact Int.le_refl _
  · unfold nX_town
    split
    · rw [up_r (by decide)]; exact Int.le_refl _
    · split
      · rw [up_i (by decide)]; exact Int.le_refl _
      · exact Int.le_refl _
  · unfold nX_town
    split
    · rw [up_r (by decide)]
    · split
      · rw [up_r (by decide)]
      · rfl
  · unfold nX_town
    split
    · rw [up_r (by decide)]
    · split
      · rw [up_r (by decide)]
      · rfl
theorem R_thing (hR : RR X tc cl σ) {k h w : Int} : rM_thing (nX_thing σ k h w) k h w = rX_thing σ k h w ∧ RR X tc cl (nM_thing (nX_thing σ k h w) k h w) := by
  obtain ⟨m1, m2, m3, m4⟩ := mod_c hR (fr_thing (k := k) (h := h) (w := w))
  have e : cT (mT σ) = cT σ := hR.2.2.1.symm
  have q3 := hR.1.1.2.2.1
  refine ⟨?_, R_mut hR fr_thing fm_thing ?_ (TI_thing hR.1.1) ?_ ?_ ?_ ?_ ?_ (fun b hb => ?_) (fun b hb => ?_)⟩
  · rw [rM_thing_m, m4, ← rX_thing_c, e, rX_thing_c]
  · show cT _ = cT (mT _)
    rw [mT_thing, m4, cT_thing hR.1.1, cT_thing (MI_T hR.2.1.1), e]
  · refine MI_ofT ?_
    rw [mT_thing, m4]
    exact TI_thing (MI_T hR.2.1.1)
  · have h := hR.1.2.2
    unfold nX_thing
    split
    · split
      · rw [up_i (by decide), up_r (by decide), up_r (by decide), up_r (by decide), up_r (by decide)]; exact h
      · exact h
    · exact h
  · have h := m1.2.2.1
    unfold nM_thing
    split
    · split
      · rw [up_i (by decide), up_r (by decide), up_r (by decide), up_r (by decide), up_r (by decide)]; exact h
      · exact h
    · exact h
  · unfold nX_thing
    split
    · split
      · rw [up_s]; omega
      · exact Int.le_refl _
    · exact Int.le_refl _
  · unfold nX_thing
    split
    · split
      · rw [up_i (by decide), up_r (by decide), up_r (by decide), up_r (by decide), up_r (by decide)]; exact Int.le_refl _
      · exact Int.le_refl _
    · exact Int.le_refl _
  · unfold nX_thing
    split
    · split
      · rw [up_r (by decide), up_r (by decide), up_r (by decide), up_r (by decide), up_i (by omega)]
      · rfl
    · rfl
  · unfold nX_thing
    split
    · split
      · rw [up_r (by decide), up_r (by decide), up_r (by decide), up_r (by decide), up_r (by decide)]
      · rfl
    · rfl
theorem R_sleeper (hR : RR X tc cl σ) {c w g : Int} : rM_sleeper (nX_sleeper σ c w g) c w g = rX_sleeper σ c w g ∧ RR X tc cl (nM_sleeper (nX_sleeper σ c w g) c w g) := by
  obtain ⟨m1, m2, m3, m4⟩ := mod_c hR (fr_sleeper (c := c) (w := w) (g := g))
  have e : cT (mT σ) = cT σ := hR.2.2.1.symm
  have q3 := hR.1.1.2.2.2.1
  refine ⟨?_, R_mut hR fr_sleeper fm_sleeper ?_ (TI_sleeper hR.1.1) ?_ ?_ ?_ ?_ ?_ (fun b hb => ?_) (fun b hb => ?_)⟩
  · rw [rM_sleeper_m, m4, ← rX_sleeper_c, e, rX_sleeper_c]
  · show cT _ = cT (mT _)
    rw [mT_sleeper, m4, cT_sleeper hR.1.1, cT_sleeper (MI_T hR.2.1.1), e]
  · refine MI_ofT ?_
    rw [mT_sleeper, m4]
    exact TI_sleeper (MI_T hR.2.1.1)
  · have h := hR.1.2.2
    unfold nX_sleeper
    split
    · split
      · rw [up_i (by decide), up_r (by decide), up_r (by decide), up_r (by decide), up_r (by decide)]; exact h
      · exact h
    · exact h
  · have h := m1.2.2.1
    unfold nM_sleeper
    split
    · split
      · rw [up_i (by decide), up_r (by decide), up_r (by decide), up_r (by decide), up_r (by decide)]; exact h
      · exact h
    · exact h
  · unfold nX_sleeper
    split
    · split
      · rw [up_i (by decide), up_r (by decide), up_r (by decide), up_r (by decide), up_r (by decide)]; exact Int.le_refl _
      · exact Int.le_refl _
    · exact Int.le_refl _
  · unfold nX_sleeper
    split
    · split
      · rw [up_s]; omega
      · exact Int.le_refl _
    · exact Int.le_refl _
  · unfold nX_sleeper
    split
    · split
      · rw [up_r (by decide), up_r (by decide), up_r (by decide), up_r (by decide), up_r (by decide)]
      · rfl
    · rfl
  · unfold nX_sleeper
    split
    · split
      · rw [up_r (by decide), up_i (by omega), up_r (by decide), up_r (by decide), up_r (by decide)]
      · rfl
    · rfl
theorem R_set (hR : RR X tc cl σ) {q f v : Int} : rM_set (nX_set σ q f v) q f v = rX_set σ q f v ∧ RR X tc cl (nM_set (nX_set σ q f v) q f v) := by
  obtain ⟨m1, m2, m3, m4⟩ := mod_c hR (σ1 := nX_set σ q f v) (fun a b h => fr_set a b (by omega))
  have e : cT (mT σ) = cT σ := hR.2.2.1.symm
  refine ⟨?_, R_mut hR (fun a b h => fr_set a b (by omega)) (fun a b h _ => fm_set a b (by omega)) ?_ (TI_set hR.1.1) ?_ ?_ ?_ ?_ ?_ (fun b hb => ?_) (fun b hb => ?_)⟩
  · rw [rM_set_m, m4, ← rX_set_c, e, rX_set_c]
  · show cT _ = cT (mT _)
    rw [mT_set, m4, cT_set, cT_set, e]
  · refine MI_ofT ?_
    rw [mT_set, m4]
    exact TI_set (MI_T hR.2.1.1)
  · rw [fr_set 1 2 (by omega)]; exact hR.1.2.2
  · rw [fm_set 51 4 (by omega)]; exact m1.2.2.1
  · rw [fr_set 1 3 (by omega)]; exact Int.le_refl _
  · rw [fr_set 1 8 (by omega)]; exact Int.le_refl _
  · exact fr_set 6 b (by omega)
  · exact fr_set 10 b (by omega)
end RMUT