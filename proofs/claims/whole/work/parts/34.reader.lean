/-- the Reader looks at the token that is searched from p on -/
def LXs (b : Nat → Int) (n p : Nat) (s : Sig) : Prop := s 28 2 = lxA b n p ∧ s 28 3 = lxE b n p ∧ s 28 4 = lxT b n p ∧ (lxT b n p = 2 ∨ lxT b n p = 3 → s 28 5 = lxV b n p)
theorem LX_end {b : Nat → Int} {n p : Nat} {s : Sig} (h0 : n ≤ lxA b n p) (h2 : s 28 2 = lxA b n p) (h3 : s 28 3 = lxA b n p) (h4 : s 28 4 = 0) : LXs b n p s := by
  have e1 : lxE b n p = lxA b n p := by unfold lxE; dsimp only; rw [if_pos h0]
  have e2 : lxT b n p = 0 := by unfold lxT; dsimp only; rw [if_pos h0]
  exact ⟨h2, by rw [e1]; exact h3, by rw [e2]; exact h4, fun h => by omega⟩
theorem LX_word {b : Nat → Int} {n p : Nat} {s : Sig} (h0 : lxA b n p < n) (h1 : bL (b (lxA b n p)) = true) (h2 : s 28 2 = lxA b n p) (h3 : s 28 3 = ((lxA b n p + runF bL b (n - lxA b n p) (lxA b n p) : Nat) : Int)) (h4 : s 28 4 = (if wIdx b (lxA b n p) (runF bL b (n - lxA b n p) (lxA b n p)) < 6 then 3 else if wIdx b (lxA b n p) (runF bL b (n - lxA b n p) (lxA b n p)) < 12 then (wIdx b (lxA b n p) (runF bL b (n - lxA b n p) (lxA b n p)) : Int) - 2 else 1)) (h5 : wIdx b (lxA b n p) (runF bL b (n - lxA b n p) (lxA b n p)) < 12 → s 28 5 = (wIdx b (lxA b n p) (runF bL b (n - lxA b n p) (lxA b n p)) : Int)) : LXs b n p s := by
  have e1 : lxE b n p = lxA b n p + runF bL b (n - lxA b n p) (lxA b n p) := by unfold lxE; dsimp only; rw [if_neg (by omega), if_pos h1]
  have e2 : lxT b n p = (if wIdx b (lxA b n p) (runF bL b (n - lxA b n p) (lxA b n p)) < 6 then 3 else if wIdx b (lxA b n p) (runF bL b (n - lxA b n p) (lxA b n p)) < 12 then (wIdx b (lxA b n p) (runF bL b (n - lxA b n p) (lxA b n p)) : Int) - 2 else 1) := by unfold lxT; dsimp only; rw [if_neg (by omega), if_pos h1]
  have e3 : lxV b n p = (wIdx b (lxA b n p) (runF bL b (n - lxA b n p) (lxA b n p)) : Int) := by unfold lxV; dsimp only; rw [if_pos h1]
  refine ⟨h2, by rw [e1]; exact h3, by rw [e2]; exact h4, fun h => ?_⟩
  rw [e3]
  refine h5 ?_
  rw [e2] at h
  split at h
  · omega
  · split at h <;> omega
theorem LX_num {b : Nat → Int} {n p : Nat} {s : Sig} (h0 : lxA b n p < n) (h1 : ¬ bL (b (lxA b n p)) = true) (h1d : bD (b (lxA b n p)) = true) (h2 : s 28 2 = lxA b n p) (h3 : s 28 3 = ((lxA b n p + runF bD b (n - lxA b n p) (lxA b n p) : Nat) : Int)) (h4 : s 28 4 = (if runF bD b (n - lxA b n p) (lxA b n p) ≤ 4 then 2 else 1)) (h5 : runF bD b (n - lxA b n p) (lxA b n p) ≤ 4 → s 28 5 = decV b (lxA b n p) (runF bD b (n - lxA b n p) (lxA b n p))) : LXs b n p s := by
  have e1 : lxE b n p = lxA b n p + runF bD b (n - lxA b n p) (lxA b n p) := by unfold lxE; dsimp only; rw [if_neg (by omega), if_neg h1, if_pos h1d]
  have e2 : lxT b n p = (if runF bD b (n - lxA b n p) (lxA b n p) ≤ 4 then 2 else 1) := by unfold lxT; dsimp only; rw [if_neg (by omega), if_neg h1, if_pos h1d]
  have e3 : lxV b n p = decV b (lxA b n p) (runF bD b (n - lxA b n p) (lxA b n p)) := by unfold lxV; dsimp only; rw [if_neg h1]
  refine ⟨h2, by rw [e1]; exact h3, by rw [e2]; exact h4, fun h => ?_⟩
  rw [e3]
  refine h5 ?_
  rw [e2] at h
  split at h <;> omega
theorem LX_oth {b : Nat → Int} {n p : Nat} {s : Sig} (h0 : lxA b n p < n) (h1 : ¬ bL (b (lxA b n p)) = true) (h1d : ¬ bD (b (lxA b n p)) = true) (h2 : s 28 2 = lxA b n p) (h3 : s 28 3 = (lxA b n p : Int) + 1) (h4 : s 28 4 = (if bS (b (lxA b n p)) then b (lxA b n p) else 1)) : LXs b n p s := by
  have e1 : lxE b n p = lxA b n p + 1 := by unfold lxE; dsimp only; rw [if_neg (by omega), if_neg h1, if_neg h1d]
  have e2 : lxT b n p = (if bS (b (lxA b n p)) then b (lxA b n p) else 1) := by unfold lxT; dsimp only; rw [if_neg (by omega), if_neg h1, if_neg h1d]
  refine ⟨h2, by rw [e1]; omega, by rw [e2]; exact h4, fun h => ?_⟩
  rw [e2] at h
  split at h
  · rename_i hs
    unfold bS at hs
    simp only [decide_eq_true_eq] at hs
    omega
  · omega
set_option maxHeartbeats 4000000 in
set_option maxRecDepth 100000 in
theorem c_X5_advance {l : Launch} {G : Gt} {ρ : Nat → Nat} {N : Nat} {sh : Nat → Shc} {σ : Sig} {n p : Nat} (hn : σ 28 1 = n) (hn1 : n ≤ 160) (he : σ 28 3 = p) (hp : p ≤ n) (hW : RW N sh) : MX l yX5_advance cX5_advance 1 none 6 149 G N ρ sh [.ref (ρ 28)] σ (PV (fun σ' => FR σ σ' ∧ LXs (σ 29) n p σ')) := by
  refine MX_of [some (.ref (ρ 28))] (by decide +kernel) rfl rfl (Nat.le_of_ble_eq_true rfl) ?_
  intro K hKl C T hRng
  subst hKl
  refine x_aload_n 1 C dX5_advance_0 rfl rfl rfl ?_
  refine x_aload_n 2 C dX5_advance_1 rfl rfl rfl ?_
  refine x_geti (j := 3) 5 C hW.2.1 (by have := hW.1; omega) rfl rfl (by decide) inT5 tb_1_156 rfl dX5_advance_2 rfl (fun r2 => ?_)
  refine x_puti (j := 2) tyX5 8 C hW.2.1 (by have := hW.1; omega) rfl rfl (by decide) inT5 tyX5_ok nmX5 tb_1_155 rfl rfl rfl dX5_advance_5 rfl (by omega) ?_
  have L8 : ∀ (m : Nat) (j : Nat) (s1 : Sig), m = n - (p + j) → (p + j ≤ n ∧ FR σ s1 ∧ s1 28 2 = ((p + j : Nat) : Int) ∧ (∀ i, i < j → bB (σ 29 (p + i)) = true)) → Ex K G N ρ sh 8 [some (.ref (ρ 28))] [] s1 := by
    intro m
    induction m using Nat.strongRecOn with
    | ind m ih =>
      intro j s1 hm hinv
      obtain ⟨hj, hF, h2, hd⟩ := hinv
      have e29 : s1 29 = σ 29 := FR_row hF (by omega)
      have e1 : s1 28 1 = n := (hF.2 1 (by omega) (by omega) (by omega) (by omega)).trans hn
      have hix : (s1 28 2).toNat = p + j := by omega
      have J47 : ∀ (u : Unit), (p + j < n ∧ bB (σ 29 (p + j)) = true) → Ex K G N ρ sh 47 [some (.ref (ρ 28))] [] s1 := by
        intro u hinv
        obtain ⟨hjn, hb⟩ := hinv
        refine x_aload_n 48 C dX5_advance_47 rfl rfl rfl ?_
        refine x_dup 49 C dX5_advance_48 rfl rfl ?_
        refine x_geti (j := 2) 52 C hW.2.1 (by have := hW.1; omega) rfl rfl (by decide) inT5 tb_1_155 rfl dX5_advance_49 rfl (fun r49 => ?_)
        refine x_iconst 53 C dX5_advance_52 rfl ?_
        refine x_iadd 54 C dX5_advance_53 rfl ?_
        refine x_puti (j := 2) tyX5 57 C hW.2.1 (by have := hW.1; omega) rfl rfl (by decide) inT5 tyX5_ok nmX5 tb_1_155 rfl rfl rfl dX5_advance_54 rfl (by omega) ?_
        refine x_goto 8 C dX5_advance_57 rfl ?_
        refine ih _ ?_ (j + 1) _ rfl ⟨by omega, FR_up hF (by omega), by rw [up_s]; omega, fun i hi => ?_⟩
        · omega
        · by_cases hij : i = j
          · subst hij; exact hb
          · exact hd i (by omega)
      have J60 : ∀ (u : Unit), (runF bB (σ 29) (n - p) p = j) → Ex K G N ρ sh 60 [some (.ref (ρ 28))] [] s1 := by
        intro u hinv
        have hA : lxA (σ 29) n p = p + j := by unfold lxA; rw [hinv]
        have h3' : (up s1 28 3 (s1 28 2)) 28 3 = ((p + j : Nat) : Int) := by rw [up_s]; exact h2
        have h2' : (up s1 28 3 (s1 28 2)) 28 2 = ((p + j : Nat) : Int) := by rw [up_i (by omega)]; exact h2
        have h1' : (up s1 28 3 (s1 28 2)) 28 1 = n := by rw [up_i (by omega)]; exact e1
        have h29' : (up s1 28 3 (s1 28 2)) 29 = σ 29 := by rw [up_row (by omega)]; exact e29
        have hF' : FR σ (up s1 28 3 (s1 28 2)) := FR_up hF (by omega)
        refine x_aload_n 61 C dX5_advance_60 rfl rfl rfl ?_
        refine x_aload_n 62 C dX5_advance_61 rfl rfl rfl ?_
        refine x_geti (j := 2) 65 C hW.2.1 (by have := hW.1; omega) rfl rfl (by decide) inT5 tb_1_155 rfl dX5_advance_62 rfl (fun r62 => ?_)
        refine x_puti (j := 3) tyX5 68 C hW.2.1 (by have := hW.1; omega) rfl rfl (by decide) inT5 tyX5_ok nmX5 tb_1_156 rfl rfl rfl dX5_advance_65 rfl (by omega) ?_
        refine x_aload_n 69 C dX5_advance_68 rfl rfl rfl ?_
        refine x_geti (j := 2) 72 C hW.2.1 (by have := hW.1; omega) rfl rfl (by decide) inT5 tb_1_155 rfl dX5_advance_69 rfl (fun r69 => ?_)
        refine x_aload_n 73 C dX5_advance_72 rfl rfl rfl ?_
        refine x_geti (j := 1) 76 C hW.2.1 (by have := hW.1; omega) rfl rfl (by decide) inT5 tb_1_153 rfl dX5_advance_73 rfl (fun r73 => ?_)
        refine x_icmp_lt 87 79 C dX5_advance_76 rfl rfl (by omega) (by omega) (fun h76 => ?_) (fun h76 => ?_)
        rotate_left
        · refine x_aload_n 80 C dX5_advance_79 rfl rfl rfl ?_
          refine x_iconst 81 C dX5_advance_80 rfl ?_
          refine x_puti (j := 4) tyX5 84 C hW.2.1 (by have := hW.1; omega) rfl rfl (by decide) inT5 tyX5_ok nmX5 tb_1_157 rfl rfl rfl dX5_advance_81 rfl (by omega) ?_
          refine x_goto 173 C dX5_advance_84 rfl ?_
          refine x_vret C T dX5_advance_173 ?_
          refine PV_i ?_
          first
            | exact ⟨FR_up hF' (by omega), LX_end (by omega) (by rw [up_i (by omega), hA]; exact h2') (by rw [up_i (by omega), hA]; exact h3') up_s⟩
            | exact ⟨FR_trans hF' k1, LX_word (by omega) (by rw [hA]; exact hbL) (by rw [hA]; exact k2) (by rw [hA]; exact k3) (by rw [hA]; exact k4) (by rw [hA]; exact k5)⟩
            | exact ⟨FR_trans hF' k1, LX_num (by omega) (by rw [hA]; exact hbL) (by rw [hA]; exact hbD) (by rw [hA]; exact k2) (by rw [hA]; exact k3) (by rw [hA]; exact k4) (by rw [hA]; exact k5)⟩
            | exact ⟨FR_up (FR_up hF' (by omega)) (by omega), LX_oth (by omega) (by rw [hA]; exact hbL) (by rw [hA]; exact hbD) (by rw [up_i (by omega), up_i (by omega), hA]; exact h2') (by rw [up_s, up_i (by omega), hA]; omega) (by rw [up_i (by omega), up_s, hA]; exact hinv)⟩
        refine x_aload_n 88 C dX5_advance_87 rfl rfl rfl ?_
        refine x_getr (j := 0) 91 C hW.2.1 (by have := hW.1; omega) rfl rfl (by decide) inT5 tb_1_151 rfl dX5_advance_88 rfl ?_
        refine x_aload_n 92 C dX5_advance_91 rfl rfl rfl ?_
        refine x_geti (j := 2) 95 C hW.2.1 (by have := hW.1; omega) rfl rfl (by decide) inT5 tb_1_155 rfl dX5_advance_92 rfl (fun r92 => ?_)
        refine x_iald 96 C hW.2.2.1 (by have := hW.1; omega) dX5_advance_95 rfl (by omega) (by omega) (fun r95 => ?_)
        refine x_callSe 99 C dX5_advance_96 rfl (c_X5_isLetter (by omega)) tb_2_1 tb_2_2 tb_1_9 tb_2_3 (na := 1) (by decide +kernel) rfl ⟨by decide, by decide⟩ rfl (Nat.le_of_ble_eq_true rfl) rfl (fun r96 => ?_)
        first
          | refine x_ifb_eq 109 102 C dX5_advance_99 rfl rfl (fun h99 => ?_) (fun h99 => ?_)
          | refine x_if_eq 109 102 C dX5_advance_99 rfl rfl (by omega) (fun h99 => ?_) (fun h99 => ?_)
        rotate_left
        · have hbL : bL (σ 29 (p + j)) = true := by unfold bL; rw [h29', show ((up s1 28 3 (s1 28 2)) 28 2).toNat = p + j by omega] at h99; simpa using h99
          refine x_aload_n 103 C dX5_advance_102 rfl rfl rfl ?_
          refine x_callVv 106 C dX5_advance_103 rfl (c_X5_readWord (a := p + j) (n := n) h1' hn1 h2' h3' (by omega) hW) hW.2.1 (by have := hW.1; omega) rfl tb_2_4 tb_2_6 tb_0_1 tb_1_9 tb_2_7 (na := 0) (by decide +kernel) rfl ⟨by decide, by decide⟩ rfl (Nat.le_of_ble_eq_true rfl) rfl (fun s103 hq103 hR103 => ?_)
          obtain ⟨k1, k2, k3, k4, k5⟩ := hq103
          rw [h29'] at k3 k4 k5
          refine x_goto 173 C dX5_advance_106 rfl ?_
          refine x_vret C T dX5_advance_173 ?_
          refine PV_i ?_
          first
            | exact ⟨FR_up hF' (by omega), LX_end (by omega) (by rw [up_i (by omega), hA]; exact h2') (by rw [up_i (by omega), hA]; exact h3') up_s⟩
            | exact ⟨FR_trans hF' k1, LX_word (by omega) (by rw [hA]; exact hbL) (by rw [hA]; exact k2) (by rw [hA]; exact k3) (by rw [hA]; exact k4) (by rw [hA]; exact k5)⟩
            | exact ⟨FR_trans hF' k1, LX_num (by omega) (by rw [hA]; exact hbL) (by rw [hA]; exact hbD) (by rw [hA]; exact k2) (by rw [hA]; exact k3) (by rw [hA]; exact k4) (by rw [hA]; exact k5)⟩
            | exact ⟨FR_up (FR_up hF' (by omega)) (by omega), LX_oth (by omega) (by rw [hA]; exact hbL) (by rw [hA]; exact hbD) (by rw [up_i (by omega), up_i (by omega), hA]; exact h2') (by rw [up_s, up_i (by omega), hA]; omega) (by rw [up_i (by omega), up_s, hA]; exact hinv)⟩
        have hbL : ¬ bL (σ 29 (p + j)) = true := by unfold bL; rw [h29', show ((up s1 28 3 (s1 28 2)) 28 2).toNat = p + j by omega] at h99; simpa using h99
        refine x_aload_n 110 C dX5_advance_109 rfl rfl rfl ?_
        refine x_getr (j := 0) 113 C hW.2.1 (by have := hW.1; omega) rfl rfl (by decide) inT5 tb_1_151 rfl dX5_advance_110 rfl ?_
        refine x_aload_n 114 C dX5_advance_113 rfl rfl rfl ?_
        refine x_geti (j := 2) 117 C hW.2.1 (by have := hW.1; omega) rfl rfl (by decide) inT5 tb_1_155 rfl dX5_advance_114 rfl (fun r114 => ?_)
        refine x_iald 118 C hW.2.2.1 (by have := hW.1; omega) dX5_advance_117 rfl (by omega) (by omega) (fun r117 => ?_)
        refine x_callSe 121 C dX5_advance_118 rfl (c_X5_isDigit (by omega)) tb_2_15 tb_2_16 tb_1_9 tb_2_17 (na := 1) (by decide +kernel) rfl ⟨by decide, by decide⟩ rfl (Nat.le_of_ble_eq_true rfl) rfl (fun r118 => ?_)
        first
          | refine x_ifb_eq 131 124 C dX5_advance_121 rfl rfl (fun h121 => ?_) (fun h121 => ?_)
          | refine x_if_eq 131 124 C dX5_advance_121 rfl rfl (by omega) (fun h121 => ?_) (fun h121 => ?_)
        rotate_left
        · have hbD : bD (σ 29 (p + j)) = true := by unfold bD; rw [h29', show ((up s1 28 3 (s1 28 2)) 28 2).toNat = p + j by omega] at h121; simpa using h121
          refine x_aload_n 125 C dX5_advance_124 rfl rfl rfl ?_
          refine x_callVv 128 C dX5_advance_125 rfl (c_X5_readNumber (a := p + j) (n := n) h1' hn1 h2' h3' (by omega) hW) hW.2.1 (by have := hW.1; omega) rfl tb_2_18 tb_2_20 tb_0_3 tb_1_9 tb_2_21 (na := 0) (by decide +kernel) rfl ⟨by decide, by decide⟩ rfl (Nat.le_of_ble_eq_true rfl) rfl (fun s125 hq125 hR125 => ?_)
          obtain ⟨k1, k2, k3, k4, k5⟩ := hq125
          rw [h29'] at k3 k4 k5
          refine x_goto 173 C dX5_advance_128 rfl ?_
          refine x_vret C T dX5_advance_173 ?_
          refine PV_i ?_
          first
            | exact ⟨FR_up hF' (by omega), LX_end (by omega) (by rw [up_i (by omega), hA]; exact h2') (by rw [up_i (by omega), hA]; exact h3') up_s⟩
            | exact ⟨FR_trans hF' k1, LX_word (by omega) (by rw [hA]; exact hbL) (by rw [hA]; exact k2) (by rw [hA]; exact k3) (by rw [hA]; exact k4) (by rw [hA]; exact k5)⟩
            | exact ⟨FR_trans hF' k1, LX_num (by omega) (by rw [hA]; exact hbL) (by rw [hA]; exact hbD) (by rw [hA]; exact k2) (by rw [hA]; exact k3) (by rw [hA]; exact k4) (by rw [hA]; exact k5)⟩
            | exact ⟨FR_up (FR_up hF' (by omega)) (by omega), LX_oth (by omega) (by rw [hA]; exact hbL) (by rw [hA]; exact hbD) (by rw [up_i (by omega), up_i (by omega), hA]; exact h2') (by rw [up_s, up_i (by omega), hA]; omega) (by rw [up_i (by omega), up_s, hA]; exact hinv)⟩
        have hbD : ¬ bD (σ 29 (p + j)) = true := by unfold bD; rw [h29', show ((up s1 28 3 (s1 28 2)) 28 2).toNat = p + j by omega] at h121; simpa using h121
        have J160 : ∀ (w : Int), (w = (if bS (σ 29 (p + j)) then σ 29 (p + j) else 1)) → Ex K G N ρ sh 160 [some (.ref (ρ 28))] [.int (iZ w), .ref (ρ 28)] (up s1 28 3 (s1 28 2)) := by
          intro w hinv
          have hw0 := hRng 29 (p + j) (by omega)
          have hwr : -2147483648 ≤ w ∧ w ≤ 2147483647 := by rw [hinv]; split <;> omega
          refine x_puti (j := 4) tyX5 163 C hW.2.1 (by have := hW.1; omega) rfl rfl (by decide) inT5 tyX5_ok nmX5 tb_1_157 rfl rfl rfl dX5_advance_160 rfl (by omega) ?_
          refine x_aload_n 164 C dX5_advance_163 rfl rfl rfl ?_
          refine x_aload_n 165 C dX5_advance_164 rfl rfl rfl ?_
          refine x_geti (j := 2) 168 C hW.2.1 (by have := hW.1; omega) rfl rfl (by decide) inT5 tb_1_155 rfl dX5_advance_165 rfl (fun r165 => ?_)
          refine x_iconst 169 C dX5_advance_168 rfl ?_
          refine x_iadd 170 C dX5_advance_169 rfl ?_
          refine x_puti (j := 3) tyX5 173 C hW.2.1 (by have := hW.1; omega) rfl rfl (by decide) inT5 tyX5_ok nmX5 tb_1_156 rfl rfl rfl dX5_advance_170 rfl (by rw [up_i (show (2 : Nat) ≠ 4 by decide)]; omega) ?_
          refine x_vret C T dX5_advance_173 ?_
          refine PV_i ?_
          first
            | exact ⟨FR_up hF' (by omega), LX_end (by omega) (by rw [up_i (by omega), hA]; exact h2') (by rw [up_i (by omega), hA]; exact h3') up_s⟩
            | exact ⟨FR_trans hF' k1, LX_word (by omega) (by rw [hA]; exact hbL) (by rw [hA]; exact k2) (by rw [hA]; exact k3) (by rw [hA]; exact k4) (by rw [hA]; exact k5)⟩
            | exact ⟨FR_trans hF' k1, LX_num (by omega) (by rw [hA]; exact hbL) (by rw [hA]; exact hbD) (by rw [hA]; exact k2) (by rw [hA]; exact k3) (by rw [hA]; exact k4) (by rw [hA]; exact k5)⟩
            | exact ⟨FR_up (FR_up hF' (by omega)) (by omega), LX_oth (by omega) (by rw [hA]; exact hbL) (by rw [hA]; exact hbD) (by rw [up_i (by omega), up_i (by omega), hA]; exact h2') (by rw [up_s, up_i (by omega), hA]; omega) (by rw [up_i (by omega), up_s, hA]; exact hinv)⟩
        refine x_aload_n 132 C dX5_advance_131 rfl rfl rfl ?_
        refine x_aload_n 133 C dX5_advance_132 rfl rfl rfl ?_
        refine x_getr (j := 0) 136 C hW.2.1 (by have := hW.1; omega) rfl rfl (by decide) inT5 tb_1_151 rfl dX5_advance_133 rfl ?_
        refine x_aload_n 137 C dX5_advance_136 rfl rfl rfl ?_
        refine x_geti (j := 2) 140 C hW.2.1 (by have := hW.1; omega) rfl rfl (by decide) inT5 tb_1_155 rfl dX5_advance_137 rfl (fun r137 => ?_)
        refine x_iald 141 C hW.2.2.1 (by have := hW.1; omega) dX5_advance_140 rfl (by omega) (by omega) (fun r140 => ?_)
        refine x_callSe 144 C dX5_advance_141 rfl (c_X5_isSign (by omega)) tb_2_22 tb_2_23 tb_1_9 tb_2_24 (na := 1) (by decide +kernel) rfl ⟨by decide, by decide⟩ rfl (Nat.le_of_ble_eq_true rfl) rfl (fun r141 => ?_)
        first
          | refine x_ifb_eq 159 147 C dX5_advance_144 rfl rfl (fun h144 => ?_) (fun h144 => ?_)
          | refine x_if_eq 159 147 C dX5_advance_144 rfl rfl (by omega) (fun h144 => ?_) (fun h144 => ?_)
        · have hbS : ¬ bS (σ 29 (p + j)) = true := by unfold bS; rw [h29', show ((up s1 28 3 (s1 28 2)) 28 2).toNat = p + j by omega] at h144; simpa using h144
          refine x_iconst 160 C dX5_advance_159 rfl ?_
          refine J160 _ ?_
          first
            | (rw [if_neg hbS]; done)
            | (rw [if_pos hbS, h29', show ((up s1 28 3 (s1 28 2)) 28 2).toNat = p + j by omega])
        have hbS : bS (σ 29 (p + j)) = true := by unfold bS; rw [h29', show ((up s1 28 3 (s1 28 2)) 28 2).toNat = p + j by omega] at h144; simpa using h144
        refine x_aload_n 148 C dX5_advance_147 rfl rfl rfl ?_
        refine x_getr (j := 0) 151 C hW.2.1 (by have := hW.1; omega) rfl rfl (by decide) inT5 tb_1_151 rfl dX5_advance_148 rfl ?_
        refine x_aload_n 152 C dX5_advance_151 rfl rfl rfl ?_
        refine x_geti (j := 2) 155 C hW.2.1 (by have := hW.1; omega) rfl rfl (by decide) inT5 tb_1_155 rfl dX5_advance_152 rfl (fun r152 => ?_)
        refine x_iald 156 C hW.2.2.1 (by have := hW.1; omega) dX5_advance_155 rfl (by omega) (by omega) (fun r155 => ?_)
        refine x_goto 160 C dX5_advance_156 rfl ?_
        refine J160 _ ?_
        first
          | (rw [if_neg hbS]; done)
          | (rw [if_pos hbS, h29', show ((up s1 28 3 (s1 28 2)) 28 2).toNat = p + j by omega])
      refine x_aload_n 9 C dX5_advance_8 rfl rfl rfl ?_
      refine x_geti (j := 2) 12 C hW.2.1 (by have := hW.1; omega) rfl rfl (by decide) inT5 tb_1_155 rfl dX5_advance_9 rfl (fun r9 => ?_)
      refine x_aload_n 13 C dX5_advance_12 rfl rfl rfl ?_
      refine x_geti (j := 1) 16 C hW.2.1 (by have := hW.1; omega) rfl rfl (by decide) inT5 tb_1_153 rfl dX5_advance_13 rfl (fun r13 => ?_)
      refine x_icmp_ge 60 19 C dX5_advance_16 rfl rfl (by omega) (by omega) (fun h16 => ?_) (fun h16 => ?_)
      · have hrun : runF bB (σ 29) (n - p) p = j := runF_eq _ _ _ (by omega) hd (fun h => absurd h (by omega))
        exact J60 () hrun
      refine x_aload_n 20 C dX5_advance_19 rfl rfl rfl ?_
      refine x_getr (j := 0) 23 C hW.2.1 (by have := hW.1; omega) rfl rfl (by decide) inT5 tb_1_151 rfl dX5_advance_20 rfl ?_
      refine x_aload_n 24 C dX5_advance_23 rfl rfl rfl ?_
      refine x_geti (j := 2) 27 C hW.2.1 (by have := hW.1; omega) rfl rfl (by decide) inT5 tb_1_155 rfl dX5_advance_24 rfl (fun r24 => ?_)
      refine x_iald 28 C hW.2.2.1 (by have := hW.1; omega) dX5_advance_27 rfl (by omega) (by omega) (fun r27 => ?_)
      refine x_bipush 30 C dX5_advance_28 rfl rfl ?_
      refine x_icmp_eq 47 33 C dX5_advance_30 rfl rfl (by omega) (by omega) (fun h30 => ?_) (fun h30 => ?_)
      · have hblank : bB (σ 29 (p + j)) = true := by unfold bB; rw [e29, hix] at h30; simp [h30]
        exact J47 () ⟨by omega, hblank⟩
      refine x_aload_n 34 C dX5_advance_33 rfl rfl rfl ?_
      refine x_getr (j := 0) 37 C hW.2.1 (by have := hW.1; omega) rfl rfl (by decide) inT5 tb_1_151 rfl dX5_advance_34 rfl ?_
      refine x_aload_n 38 C dX5_advance_37 rfl rfl rfl ?_
      refine x_geti (j := 2) 41 C hW.2.1 (by have := hW.1; omega) rfl rfl (by decide) inT5 tb_1_155 rfl dX5_advance_38 rfl (fun r38 => ?_)
      refine x_iald 42 C hW.2.2.1 (by have := hW.1; omega) dX5_advance_41 rfl (by omega) (by omega) (fun r41 => ?_)
      refine x_bipush 44 C dX5_advance_42 rfl rfl ?_
      refine x_icmp_ne 60 47 C dX5_advance_44 rfl rfl (by omega) (by omega) (fun h44 => ?_) (fun h44 => ?_)
      · have hrun : runF bB (σ 29) (n - p) p = j := runF_eq _ _ _ (by omega) hd (fun _ => by unfold bB; rw [e29, hix] at h44 h30; simp; omega)
        exact J60 () hrun
      have hblank : bB (σ 29 (p + j)) = true := by unfold bB; rw [e29, hix] at h44; simp [h44]
      exact J47 () ⟨by omega, hblank⟩
  exact L8 _ 0 _ rfl ⟨by omega, FR_up (FR_refl σ) (by omega), by rw [up_s]; omega, fun i hi => absurd hi (by omega)⟩

/-- what the parser leaves as it is -/
def FRc (σ σ' : Sig) : Prop := (∀ a b, a ≠ 28 → a ≠ 30 → σ' a b = σ a b) ∧ (∀ b, b ≠ 2 → b ≠ 3 → b ≠ 4 → b ≠ 5 → b ≠ 7 → σ' 28 b = σ 28 b)
theorem FRc_refl (σ : Sig) : FRc σ σ := ⟨fun _ _ _ _ => rfl, fun _ _ _ _ _ _ => rfl⟩
theorem FRc_trans {σ s1 s2 : Sig} (h : FRc σ s1) (h2 : FRc s1 s2) : FRc σ s2 := ⟨fun a b h3 h4 => (h2.1 a b h3 h4).trans (h.1 a b h3 h4), fun b h3 h4 h5 h6 h7 => (h2.2 b h3 h4 h5 h6 h7).trans (h.2 b h3 h4 h5 h6 h7)⟩
theorem FR_c {σ s1 : Sig} (h : FR σ s1) : FRc σ s1 := ⟨fun a b h3 _ => h.1 a b h3, fun b h3 h4 h5 h6 _ => h.2 b h3 h4 h5 h6⟩
/-- the Reader stands at p, with the code Lc -/
def RS (σ0 : Sig) (n p : Nat) (Lc : List Int) (s : Sig) : Prop := FRc σ0 s ∧ σ0 28 1 = n ∧ p ≤ n ∧ n ≤ 160 ∧ LXs (σ0 29) n p s ∧ s 28 7 = Lc.length ∧ Lc.length ≤ 160 ∧ ∀ i x, Lc[i]? = some x → s 30 i = x
/-- the Reader has failed at the place a -/
def RF (σ0 : Sig) (a : Nat) (s : Sig) : Prop := FRc σ0 s ∧ s 28 2 = a ∧ 0 ≤ s 28 7 ∧ s 28 7 ≤ 160
def PP (σ0 : Sig) (n : Nat) (Lc : List Int) (R : Pr) (z : Int) (s : Sig) : Prop := match R with
  | .inl (p', L) => z = 1 ∧ RS σ0 n p' (Lc ++ L) s
  | .inr a => z = 0 ∧ RF σ0 a s
def EM (c : Int) (s s' : Sig) : Prop := (s 28 7 < 160 → s' = up (up s 30 (s 28 7).toNat c) 28 7 (s 28 7 + 1)) ∧ (¬ s 28 7 < 160 → s' = s)
theorem RS_tok {σ0 s : Sig} {n p : Nat} {Lc : List Int} (h : RS σ0 n p Lc s) : s 28 4 = lxT (σ0 29) n p := h.2.2.2.2.1.2.2.1
theorem RS_at {σ0 s : Sig} {n p : Nat} {Lc : List Int} (h : RS σ0 n p Lc s) : s 28 2 = lxA (σ0 29) n p := h.2.2.2.2.1.1
theorem RS_end {σ0 s : Sig} {n p : Nat} {Lc : List Int} (h : RS σ0 n p Lc s) : s 28 3 = lxE (σ0 29) n p := h.2.2.2.2.1.2.1
theorem RS_val {σ0 s : Sig} {n p : Nat} {Lc : List Int} (h : RS σ0 n p Lc s) (ht : lxT (σ0 29) n p = 2 ∨ lxT (σ0 29) n p = 3) : s 28 5 = lxV (σ0 29) n p := h.2.2.2.2.1.2.2.2 ht
theorem RS_le {σ0 s : Sig} {n p : Nat} {Lc : List Int} (h : RS σ0 n p Lc s) : p ≤ n := h.2.2.1
theorem RS_n {σ0 s : Sig} {n p : Nat} {Lc : List Int} (h : RS σ0 n p Lc s) : n ≤ 160 := h.2.2.2.1
theorem RS_size {σ0 s : Sig} {n p : Nat} {Lc : List Int} (h : RS σ0 n p Lc s) : s 28 1 = n := (h.1.2 1 (by omega) (by omega) (by omega) (by omega) (by omega)).trans h.2.1
theorem RS_tape {σ0 s : Sig} {n p : Nat} {Lc : List Int} (h : RS σ0 n p Lc s) : s 29 = σ0 29 := funext fun b => h.1.1 29 b (by omega) (by omega)
theorem RS_ele {σ0 s : Sig} {n p : Nat} {Lc : List Int} (h : RS σ0 n p Lc s) : lxE (σ0 29) n p ≤ n := lxE_le (RS_le h)
theorem RS_cs {σ0 s : Sig} {n p : Nat} {Lc : List Int} (h : RS σ0 n p Lc s) : s 28 7 = Lc.length ∧ Lc.length ≤ 160 := ⟨h.2.2.2.2.2.1, h.2.2.2.2.2.2.1⟩
theorem RS_RF {σ0 s : Sig} {n p : Nat} {Lc : List Int} (h : RS σ0 n p Lc s) : RF σ0 (lxA (σ0 29) n p) s := ⟨h.1, RS_at h, by have := RS_cs h; omega, by have := RS_cs h; omega⟩
theorem RS_adv {σ0 s s' : Sig} {n p : Nat} {Lc : List Int} (h : RS σ0 n p Lc s) (h2 : FR s s') (h3 : LXs (s 29) n (lxE (σ0 29) n p) s') : RS σ0 n (lxE (σ0 29) n p) Lc s' := by
  rw [RS_tape h] at h3
  exact ⟨FRc_trans h.1 (FR_c h2), h.2.1, RS_ele h, RS_n h, h3, (h2.2 7 (by omega) (by omega) (by omega) (by omega)).trans (RS_cs h).1, (RS_cs h).2, fun i x hi => (h2.1 30 i (by omega)).trans (h.2.2.2.2.2.2.2 i x hi)⟩
theorem RS_emit {σ0 s s' : Sig} {n p : Nat} {Lc : List Int} {c : Int} (h : RS σ0 n p Lc s) (hl : Lc.length < 160) (h2 : EM c s s') : RS σ0 n p (Lc ++ [c]) s' := by
  obtain ⟨h7, h8⟩ := RS_cs h
  obtain rfl := h2.1 (by omega)
  refine ⟨⟨fun a b h3 h4 => ?_, fun b h3 h4 h5 h6 h9 => ?_⟩, h.2.1, h.2.2.1, h.2.2.2.1, ⟨?_, ?_, ?_, fun ht => ?_⟩, ?_, ?_, fun i x hi => ?_⟩
  · rw [up_r h3, up_r h4]; exact h.1.1 a b h3 h4
  · rw [up_i h9, up_r (by omega)]; exact h.1.2 b h3 h4 h5 h6 h9
  · rw [up_i (by omega), up_r (by omega)]; exact RS_at h
  · rw [up_i (by omega), up_r (by omega)]; exact RS_end h
  · rw [up_i (by omega), up_r (by omega)]; exact RS_tok h
  · rw [up_i (by omega), up_r (by omega)]; exact RS_val h ht
  · rw [up_s, h7]; simp
  · simp; omega
  · rw [up_r (by omega), h7, Int.toNat_natCast]
    by_cases hc : i = Lc.length
    · subst hc
      rw [List.getElem?_append_right (Nat.le_refl _)] at hi
      simp only [Nat.sub_self, List.getElem?_cons_zero, Option.some.injEq] at hi
      rw [up_s]; exact hi
    · rw [up_i hc]
      have hlt := (List.getElem?_eq_some_iff.mp hi).1
      simp only [List.length_append, List.length_cons, List.length_nil] at hlt
      rw [List.getElem?_append_left (by omega)] at hi
      exact h.2.2.2.2.2.2.2 i x hi
theorem RF_emit {σ0 s s' : Sig} {a : Nat} {c : Int} (h : RF σ0 a s) (h2 : EM c s s') : RF σ0 a s' := by
  obtain ⟨h3, h4, h5, h6⟩ := h
  by_cases hl : s 28 7 < 160
  · obtain rfl := h2.1 hl
    refine ⟨⟨fun a b h7 h8 => ?_, fun b h7 h8 h9 h10 h11 => ?_⟩, ?_, ?_, ?_⟩
    · rw [up_r h7, up_r h8]; exact h3.1 a b h7 h8
    · rw [up_i h11, up_r (by omega)]; exact h3.2 b h7 h8 h9 h10 h11
    · rw [up_i (by omega), up_r (by omega)]; exact h4
    · rw [up_s]; omega
    · rw [up_s]; omega
  · obtain rfl := h2.2 hl
    exact ⟨h3, h4, h5, h6⟩
theorem PP_01 {σ0 s : Sig} {n : Nat} {Lc : List Int} {R : Pr} {z : Int} (h : PP σ0 n Lc R z s) : z = 0 ∨ z = 1 := by
  unfold PP at h
  split at h <;> omega
theorem PP_cs {σ0 s : Sig} {n : Nat} {Lc : List Int} {R : Pr} {z : Int} (h : PP σ0 n Lc R z s) : 0 ≤ s 28 7 ∧ s 28 7 ≤ 160 := by
  unfold PP at h
  split at h
  · have := RS_cs h.2; omega
  · exact ⟨h.2.2.2.1, h.2.2.2.2⟩
theorem PP_r {σ0 s : Sig} {n p' : Nat} {Lc L : List Int} {z : Int} (h : PP σ0 n Lc (.inl (p', L)) z s) : z = 1 ∧ RS σ0 n p' (Lc ++ L) s := h
theorem PP_f {σ0 s : Sig} {n a : Nat} {Lc : List Int} {z : Int} (h : PP σ0 n Lc (.inr a) z s) : z = 0 ∧ RF σ0 a s := h
/-- a chain under way: f more may come -/
def CI (σ0 : Sig) (n : Nat) (Lc : List Int) (op : Int → Option Int) (q : Nat → Pr) (R : Pr) (f : Nat) (g : Int) (s : Sig) : Prop := (g = 1 ∧ ∃ p1 L1, RS σ0 n p1 (Lc ++ L1) s ∧ (Lc ++ L1).length ≤ p1 ∧ pChain (σ0 29) n op q f (p1, L1) = R) ∨ (g = 0 ∧ ∃ a, R = .inr a ∧ RF σ0 a s)
theorem CI_01 {σ0 s : Sig} {n f : Nat} {Lc : List Int} {op : Int → Option Int} {q : Nat → Pr} {R : Pr} {g : Int} (h : CI σ0 n Lc op q R f g s) : (g = 0 ∨ g = 1) := by
  rcases h with h | h
  · exact Or.inr h.1
  · exact Or.inl h.1
theorem CI_start {σ0 s : Sig} {n p D : Nat} {Lc : List Int} {op : Int → Option Int} {q : Nat → Pr} {R : Pr} {g : Int} (hq : GQ (σ0 29) n D q) (hp : p ≤ n) (hl : Lc.length ≤ p) (hR : pSeq (σ0 29) n op q p = R) (h : PP σ0 n Lc (q p) g s) : CI σ0 n Lc op q R 160 g s := by
  unfold pSeq at hR
  cases hqp : q p with
  | inl r =>
    obtain ⟨p1, L1⟩ := r
    rw [hqp] at h hR
    obtain ⟨h1, h2⟩ := PP_r h
    obtain ⟨a1, a2, a3, -⟩ := hq p hp _ _ hqp
    exact Or.inl ⟨h1, p1, L1, h2, by simp only [List.length_append]; omega, hR⟩
  | inr a =>
    rw [hqp] at h hR
    obtain ⟨h1, h2⟩ := PP_f h
    exact Or.inr ⟨h1, a, hR.symm, h2⟩
theorem CI_end_0 {σ0 s : Sig} {n f : Nat} {Lc : List Int} {op : Int → Option Int} {q : Nat → Pr} {R : Pr} {g : Int} (h : CI σ0 n Lc op q R f g s) (hf : f = 0) : PP σ0 n Lc R g s := by
  subst hf
  rcases h with ⟨rfl, p1, L1, h1, h2, h3⟩ | ⟨rfl, a, rfl, h2⟩
  · subst h3
    exact ⟨rfl, h1⟩
  · exact ⟨rfl, h2⟩
theorem CI_end_g {σ0 s : Sig} {n f : Nat} {Lc : List Int} {op : Int → Option Int} {q : Nat → Pr} {R : Pr} {g : Int} (h : CI σ0 n Lc op q R f g s) (hg : g = 0) : PP σ0 n Lc R g s := by
  rcases h with ⟨rfl, p1, L1, h1, h2, h3⟩ | ⟨rfl, a, rfl, h2⟩
  · omega
  · exact ⟨rfl, h2⟩
theorem CI_end_t {σ0 s : Sig} {n f : Nat} {Lc : List Int} {op : Int → Option Int} {q : Nat → Pr} {R : Pr} {p1 : Nat} {L1 : List Int} (h1 : RS σ0 n p1 (Lc ++ L1) s) (h3 : pChain (σ0 29) n op q f (p1, L1) = R) (ht : op (lxT (σ0 29) n p1) = none) {g : Int} (hg : g = 1) : PP σ0 n Lc R g s := by
  cases f with
  | zero => subst h3; exact ⟨hg, h1⟩
  | succ f =>
    simp only [pChain, ht] at h3
    subst h3
    exact ⟨hg, h1⟩
theorem CI_go {σ0 s : Sig} {n f : Nat} {Lc : List Int} {op : Int → Option Int} {q : Nat → Pr} {R : Pr} {g : Int} (h : CI σ0 n Lc op q R f g s) (hg : ¬ g = 0) : g = 1 ∧ ∃ p1 L1, RS σ0 n p1 (Lc ++ L1) s ∧ (Lc ++ L1).length ≤ p1 ∧ pChain (σ0 29) n op q f (p1, L1) = R := by
  rcases h with h | h
  · exact h
  · exact absurd h.1 hg
theorem CI_step {σ0 s s' : Sig} {n f f' p1 D : Nat} {Lc L1 : List Int} {op : Int → Option Int} {q : Nat → Pr} {R : Pr} {c g : Int} (hq : GQ (σ0 29) n D q) (hp : p1 ≤ n) (hn : n ≤ 160) (hl : (Lc ++ L1).length ≤ p1) (hf : f = f' + 1) (h3 : pChain (σ0 29) n op q f (p1, L1) = R) (hc : op (lxT (σ0 29) n p1) = some c) (ht : lxT (σ0 29) n p1 ≠ 0) (h : PP σ0 n (Lc ++ L1) (q (lxE (σ0 29) n p1)) g s) (he : EM c s s') : CI σ0 n Lc op q R f' g s' := by
  subst hf
  have hlt := lxE_lt ht
  have hle := lxE_le (b := σ0 29) hp
  cases hqp : q (lxE (σ0 29) n p1) with
  | inl r =>
    obtain ⟨p2, L2⟩ := r
    simp only [pChain, hc, hqp] at h3
    rw [hqp] at h
    obtain ⟨h1, h2⟩ := PP_r h
    obtain ⟨a1, a2, a3, -⟩ := hq _ hle _ _ hqp
    have hlen : (Lc ++ L1 ++ L2).length < p2 := by rw [List.length_append]; omega
    have := RS_emit h2 (by omega) he
    rw [show Lc ++ L1 ++ L2 ++ [c] = Lc ++ (L1 ++ L2 ++ [c]) by simp [List.append_assoc]] at this
    refine Or.inl ⟨h1, p2, _, this, ?_, h3⟩
    simp only [List.length_append, List.length_cons, List.length_nil] at hlen ⊢
    omega
  | inr a =>
    simp only [pChain, hc, hqp] at h3
    rw [hqp] at h
    obtain ⟨h1, h2⟩ := PP_f h
    exact Or.inr ⟨h1, a, h3.symm, RF_emit h2 he⟩
/-- a parser's contract, with k more that may be open -/
def PC (l : Launch) (G : Gt) (N : Nat) (ρ : Nat → Nat) (sh : Nat → Shc) (y : MethodName) (cc : ByteArray) (nL fr lo k : Nat) (q : (Nat → Int) → Nat → Nat → Pr) : Prop := ∀ (σ0 σ : Sig) (n p : Nat) (Lc : List Int) (u : Int), RS σ0 n p Lc σ → Lc.length ≤ p → (u + k = 5 ∧ 0 ≤ u) → MX l y cc nL (some .boolean) fr lo G N ρ sh [.ref (ρ 28), .int (iZ u)] σ (PI (fun z σ' => PP σ0 n Lc (q (σ0 29) n p) z σ'))
set_option maxHeartbeats 4000000 in
set_option maxRecDepth 100000 in
theorem c_X5_emit {l : Launch} {G : Gt} {ρ : Nat → Nat} {N : Nat} {sh : Nat → Shc} {σ : Sig} {c : Int} (hc : -2147483648 ≤ c ∧ c ≤ 2147483647) (hq : 0 ≤ σ 28 7 ∧ σ 28 7 ≤ 160) (hW : RW N sh) : MX l yX5_emit cX5_emit 2 none 0 0 G N ρ sh [.ref (ρ 28), .int (iZ c)] σ (PV (fun σ' => EM c σ σ')) := by
  refine MX_of [some (.ref (ρ 28)), some (.int (iZ c))] (by decide +kernel) rfl rfl (Nat.le_of_ble_eq_true rfl) ?_
  intro K hKl C T hRng
  subst hKl
  refine x_aload_n 1 C dX5_emit_0 rfl rfl rfl ?_
  refine x_geti (j := 7) 4 C hW.2.1 (by have := hW.1; omega) rfl rfl (by decide) inT5 tb_1_160 rfl dX5_emit_1 rfl (fun r1 => ?_)
  refine x_sipush 7 C dX5_emit_4 rfl rfl ?_
  refine x_icmp_ge 30 10 C dX5_emit_7 rfl rfl (by omega) (by omega) (fun h7 => ?_) (fun h7 => ?_)
  · refine x_vret C T dX5_emit_30 ?_
    refine PV_i ⟨fun h => ?_, fun h => ?_⟩
    all_goals first | (exfalso; omega) | rfl | (rw [up_r (show (28 : Nat) ≠ 30 by decide)])
  refine x_aload_n 11 C dX5_emit_10 rfl rfl rfl ?_
  refine x_getr (j := 6) 14 C hW.2.1 (by have := hW.1; omega) rfl rfl (by decide) inT5 tb_1_159 rfl dX5_emit_11 rfl ?_
  refine x_aload_n 15 C dX5_emit_14 rfl rfl rfl ?_
  refine x_geti (j := 7) 18 C hW.2.1 (by have := hW.1; omega) rfl rfl (by decide) inT5 tb_1_160 rfl dX5_emit_15 rfl (fun r15 => ?_)
  refine x_iload_n 19 C dX5_emit_18 rfl rfl rfl ?_
  refine x_iast 20 C hW.2.2.2 (by have := hW.1; omega) dX5_emit_19 rfl (by omega) (by omega) (by omega) ?_
  skip
  refine x_aload_n 21 C dX5_emit_20 rfl rfl rfl ?_
  refine x_dup 22 C dX5_emit_21 rfl rfl ?_
  refine x_geti (j := 7) 25 C hW.2.1 (by have := hW.1; omega) rfl rfl (by decide) inT5 tb_1_160 rfl dX5_emit_22 rfl (fun r22 => ?_)
  refine x_iconst 26 C dX5_emit_25 rfl ?_
  refine x_iadd 27 C dX5_emit_26 rfl ?_
  refine x_puti (j := 7) tyX5 30 C hW.2.1 (by have := hW.1; omega) rfl rfl (by decide) inT5 tyX5_ok nmX5 tb_1_160 rfl rfl rfl dX5_emit_27 rfl (by rw [up_r (show (28 : Nat) ≠ 30 by decide)]; omega) ?_
  refine x_vret C T dX5_emit_30 ?_
  refine PV_i ⟨fun h => ?_, fun h => ?_⟩
  all_goals first | (exfalso; omega) | rfl | (rw [up_r (show (28 : Nat) ≠ 30 by decide)])

set_option maxHeartbeats 4000000 in
set_option maxRecDepth 100000 in
theorem c_X5_skip {l : Launch} {G : Gt} {ρ : Nat → Nat} {N : Nat} {sh : Nat → Shc} {σ : Sig} {σ0 : Sig} {n p : Nat} {Lc : List Int} {t : Int} (hS : RS σ0 n p Lc σ) (ht : -2147483648 ≤ t ∧ t ≤ 2147483647) (hW : RW N sh) : MX l yX5_skip cX5_skip 2 (some .boolean) 7 169 G N ρ sh [.ref (ρ 28), .int (iZ t)] σ (PI (fun z σ' => (lxT (σ0 29) n p = t → z = 1 ∧ RS σ0 n (lxE (σ0 29) n p) Lc σ') ∧ (lxT (σ0 29) n p ≠ t → z = 0 ∧ σ' = σ))) := by
  refine MX_of [some (.ref (ρ 28)), some (.int (iZ t))] (by decide +kernel) rfl rfl (Nat.le_of_ble_eq_true rfl) ?_
  intro K hKl C T hRng
  subst hKl
  have htok := RS_tok hS
  refine x_aload_n 1 C dX5_skip_0 rfl rfl rfl ?_
  refine x_geti (j := 4) 4 C hW.2.1 (by have := hW.1; omega) rfl rfl (by decide) inT5 tb_1_157 rfl dX5_skip_1 rfl (fun r1 => ?_)
  refine x_iload_n 5 C dX5_skip_4 rfl rfl rfl ?_
  refine x_icmp_eq 10 8 C dX5_skip_5 rfl rfl (by omega) (by omega) (fun h5 => ?_) (fun h5 => ?_)
  · refine x_aload_n 11 C dX5_skip_10 rfl rfl rfl ?_
    refine x_callVv 14 C dX5_skip_11 rfl (c_X5_advance (n := n) (p := lxE (σ0 29) n p) (RS_size hS) (RS_n hS) (RS_end hS) (RS_ele hS) hW) hW.2.1 (by have := hW.1; omega) rfl tb_1_237 tb_1_239 tb_0_0 tb_1_9 tb_2_0 (na := 0) (by decide +kernel) rfl ⟨by decide, by decide⟩ rfl (Nat.le_of_ble_eq_true rfl) rfl (fun s11 hq11 hR11 => ?_)
    refine x_iconst 15 C dX5_skip_14 rfl ?_
    refine x_zret C T dX5_skip_15 (by omega) ?_
    refine PI_i (by omega) ⟨fun h => ?_, fun h => ?_⟩
    all_goals first | (exfalso; omega) | exact ⟨rfl, rfl⟩ | exact ⟨rfl, RS_adv hS hq11.1 hq11.2⟩
  refine x_iconst 9 C dX5_skip_8 rfl ?_
  refine x_zret C T dX5_skip_9 (by omega) ?_
  refine PI_i (by omega) ⟨fun h => ?_, fun h => ?_⟩
  all_goals first | (exfalso; omega) | exact ⟨rfl, rfl⟩ | exact ⟨rfl, RS_adv hS hq11.1 hq11.2⟩

set_option maxHeartbeats 4000000 in
set_option maxRecDepth 100000 in
theorem c_X5_readTerm {l : Launch} {G : Gt} {ρ : Nat → Nat} {N : Nat} {sh : Nat → Shc} {σ : Sig} {σ0 : Sig} {n p k : Nat} {Lc : List Int} {u : Int} (hS : RS σ0 n p Lc σ) (hl : Lc.length ≤ p) (hk : u + k = 5 ∧ 0 ≤ u) (hI : PC l G N ρ sh yX5_readOne cX5_readOne 3 (8 + 7 * k) (200 + 168 * k) k (fun b n => pOne b n k)) (hW : RW N sh) : MX l yX5_readTerm cX5_readTerm 4 (some .boolean) (9 + 7 * k) (224 + 168 * k) G N ρ sh [.ref (ρ 28), .int (iZ u)] σ (PI (fun z σ' => PP σ0 n Lc (pTerm (σ0 29) n k p) z σ')) := by
  refine MX_of [some (.ref (ρ 28)), some (.int (iZ u)), none, none] (by decide +kernel) rfl rfl (Nat.le_of_ble_eq_true rfl) ?_
  intro K hKl C T hRng
  subst hKl
  obtain ⟨R, hR⟩ : ∃ R, pTerm (σ0 29) n k p = R := ⟨_, rfl⟩
  have hg := (parse_GQ (σ0 29) n k).1
  
  refine x_aload_n 1 C dX5_readTerm_0 rfl rfl rfl ?_
  refine x_iload_n 2 C dX5_readTerm_1 rfl rfl rfl ?_
  refine x_callVi 5 C dX5_readTerm_2 rfl (hI σ0 σ n p Lc u hS hl hk) hW.2.1 (by have := hW.1; omega) rfl tb_2_57 tb_2_59 tb_0_12 tb_1_9 tb_2_60 (na := 1) (by decide +kernel) rfl ⟨by omega, by omega⟩ rfl (Nat.le_of_ble_eq_true rfl) rfl (fun z2 s2 hz2 hq2 hR2 => ?_)
  have hC0 := CI_start (op := opMul) hg (RS_le hS) hl hR hq2
  have h01 := CI_01 hC0
  refine x_istore_n2 6 C dX5_readTerm_5 rfl rfl ?_
  refine x_iconst 7 C dX5_readTerm_6 rfl ?_
  refine x_istore_n3 8 C dX5_readTerm_7 rfl rfl ?_
  have L8 : ∀ (m : Nat) (i : Nat) (g y : Int) (s1 : Sig), m = 160 - i → (i ≤ 160 ∧ y = i ∧ CI σ0 n Lc opMul (pOne (σ0 29) n k) R (160 - i) g s1) → Ex K G N ρ sh 8 [some (.ref (ρ 28)), some (.int (iZ u)), some (.int (iZ g)), some (.int (iZ y))] [] s1 := by
    intro m
    induction m using Nat.strongRecOn with
    | ind m ih =>
      intro i g y s1 hm hinv
      obtain ⟨hi, rfl, hC1⟩ := hinv
      have h01 := CI_01 hC1
      refine x_iload_n 9 C dX5_readTerm_8 rfl rfl rfl ?_
      refine x_sipush 12 C dX5_readTerm_9 rfl rfl ?_
      refine x_icmp_ge 50 15 C dX5_readTerm_12 rfl rfl (by omega) (by omega) (fun h12 => ?_) (fun h12 => ?_)
      · have hfin := CI_end_0 hC1 (by omega)
        refine x_iload_n 51 C dX5_readTerm_50 rfl rfl rfl ?_
        refine x_zret C T dX5_readTerm_51 (by omega) ?_
        refine PI_i (by omega) ?_
        first | (rw [pOr_eq]; rw [show pSeq (σ0 29) n opOr (pAnd (σ0 29) n k) p = R from hR]; exact hfin) | (rw [show pTerm (σ0 29) n k p = R from hR]; exact hfin)
      refine x_iload_n 16 C dX5_readTerm_15 rfl rfl rfl ?_
      first
        | refine x_ifb_eq 50 19 C dX5_readTerm_16 rfl rfl (fun h16 => ?_) (fun h16 => ?_)
        | refine x_if_eq 50 19 C dX5_readTerm_16 rfl rfl (by omega) (fun h16 => ?_) (fun h16 => ?_)
      · have hfin := CI_end_g hC1 h16
        refine x_iload_n 51 C dX5_readTerm_50 rfl rfl rfl ?_
        refine x_zret C T dX5_readTerm_51 (by omega) ?_
        refine PI_i (by omega) ?_
        first | (rw [pOr_eq]; rw [show pSeq (σ0 29) n opOr (pAnd (σ0 29) n k) p = R from hR]; exact hfin) | (rw [show pTerm (σ0 29) n k p = R from hR]; exact hfin)
      obtain ⟨hg1, p1, L1, hS1, hl1, hch⟩ := CI_go hC1 h16
      have ht1 := RS_tok hS1
      refine x_aload_n 20 C dX5_readTerm_19 rfl rfl rfl ?_
      refine x_geti (j := 4) 23 C hW.2.1 (by have := hW.1; omega) rfl rfl (by decide) inT5 tb_1_157 rfl dX5_readTerm_20 rfl (fun r20 => ?_)
      refine x_bipush 25 C dX5_readTerm_23 rfl rfl ?_
      refine x_icmp_ne 50 28 C dX5_readTerm_25 rfl rfl (by omega) (by omega) (fun h25 => ?_) (fun h25 => ?_)
      · have hfin := CI_end_t hS1 hch (by unfold opMul; rw [if_neg (by omega)]) hg1
        refine x_iload_n 51 C dX5_readTerm_50 rfl rfl rfl ?_
        refine x_zret C T dX5_readTerm_51 (by omega) ?_
        refine PI_i (by omega) ?_
        first | (rw [pOr_eq]; rw [show pSeq (σ0 29) n opOr (pAnd (σ0 29) n k) p = R from hR]; exact hfin) | (rw [show pTerm (σ0 29) n k p = R from hR]; exact hfin)
      refine x_aload_n 29 C dX5_readTerm_28 rfl rfl rfl ?_
      refine x_callVv 32 C dX5_readTerm_29 rfl (c_X5_advance (n := n) (p := lxE (σ0 29) n p1) (RS_size hS1) (RS_n hS1) (RS_end hS1) (RS_ele hS1) hW) hW.2.1 (by have := hW.1; omega) rfl tb_1_237 tb_1_239 tb_0_0 tb_1_9 tb_2_0 (na := 0) (by decide +kernel) rfl ⟨by omega, by omega⟩ rfl (Nat.le_of_ble_eq_true rfl) rfl (fun s29 hq29 hR29 => ?_)
      have hS2 := RS_adv hS1 hq29.1 hq29.2
      have hlt := lxE_lt (b := σ0 29) (n := n) (p := p1) (by omega)
      refine x_aload_n 33 C dX5_readTerm_32 rfl rfl rfl ?_
      refine x_iload_n 34 C dX5_readTerm_33 rfl rfl rfl ?_
      refine x_callVi 37 C dX5_readTerm_34 rfl (hI σ0 s29 n _ (Lc ++ L1) u hS2 (by omega) hk) hW.2.1 (by have := hW.1; omega) rfl tb_2_57 tb_2_59 tb_0_12 tb_1_9 tb_2_60 (na := 1) (by decide +kernel) rfl ⟨by omega, by omega⟩ rfl (Nat.le_of_ble_eq_true rfl) rfl (fun z34 s34 hz34 hq34 hR34 => ?_)
      have h02 := PP_01 hq34
      have h03 := PP_cs hq34
      refine x_istore_n2 38 C dX5_readTerm_37 rfl rfl ?_
      refine x_aload_n 39 C dX5_readTerm_38 rfl rfl rfl ?_
      refine x_bipush 41 C dX5_readTerm_39 rfl rfl ?_
      refine x_callVv 44 C dX5_readTerm_41 rfl (c_X5_emit (by omega) (by omega) hW) hW.2.1 (by have := hW.1; omega) rfl tb_2_61 tb_2_63 tb_0_13 tb_1_9 tb_2_64 (na := 1) (by decide +kernel) rfl ⟨by omega, by omega⟩ rfl (Nat.le_of_ble_eq_true rfl) rfl (fun s41 hq41 hR41 => ?_)
      refine x_iinc_3 47 C dX5_readTerm_44 rfl rfl ?_
      refine x_goto 8 C dX5_readTerm_47 rfl ?_
      refine ih _ ?_ (i + 1) _ _ _ rfl ⟨by omega, by omega, ?_⟩
      · omega
      · exact CI_step (c := -14) hg (RS_le hS1) (RS_n hS1) hl1 (by omega) hch (by unfold opMul; rw [if_pos (by omega)]) (by omega) hq34 hq41
  exact L8 _ 0 _ _ _ rfl ⟨by omega, rfl, hC0⟩

set_option maxHeartbeats 4000000 in
set_option maxRecDepth 100000 in
theorem c_X5_readAnd {l : Launch} {G : Gt} {ρ : Nat → Nat} {N : Nat} {sh : Nat → Shc} {σ : Sig} {σ0 : Sig} {n p k : Nat} {Lc : List Int} {u : Int} (hS : RS σ0 n p Lc σ) (hl : Lc.length ≤ p) (hk : u + k = 5 ∧ 0 ≤ u) (hI : PC l G N ρ sh yX5_readNot cX5_readNot 3 (12 + 7 * k) (296 + 168 * k) k (fun b n => pNot b n k)) (hW : RW N sh) : MX l yX5_readAnd cX5_readAnd 4 (some .boolean) (13 + 7 * k) (320 + 168 * k) G N ρ sh [.ref (ρ 28), .int (iZ u)] σ (PI (fun z σ' => PP σ0 n Lc (pAnd (σ0 29) n k p) z σ')) := by
  refine MX_of [some (.ref (ρ 28)), some (.int (iZ u)), none, none] (by decide +kernel) rfl rfl (Nat.le_of_ble_eq_true rfl) ?_
  intro K hKl C T hRng
  subst hKl
  obtain ⟨R, hR⟩ : ∃ R, pAnd (σ0 29) n k p = R := ⟨_, rfl⟩
  have hg := (parse_GQ (σ0 29) n k).2.1
  
  refine x_aload_n 1 C dX5_readAnd_0 rfl rfl rfl ?_
  refine x_iload_n 2 C dX5_readAnd_1 rfl rfl rfl ?_
  refine x_callVi 5 C dX5_readAnd_2 rfl (hI σ0 σ n p Lc u hS hl hk) hW.2.1 (by have := hW.1; omega) rfl tb_2_41 tb_2_43 tb_0_8 tb_1_9 tb_2_44 (na := 1) (by decide +kernel) rfl ⟨by omega, by omega⟩ rfl (Nat.le_of_ble_eq_true rfl) rfl (fun z2 s2 hz2 hq2 hR2 => ?_)
  have hC0 := CI_start (op := opAnd) hg (RS_le hS) hl hR hq2
  have h01 := CI_01 hC0
  refine x_istore_n2 6 C dX5_readAnd_5 rfl rfl ?_
  refine x_iconst 7 C dX5_readAnd_6 rfl ?_
  refine x_istore_n3 8 C dX5_readAnd_7 rfl rfl ?_
  have L8 : ∀ (m : Nat) (i : Nat) (g y : Int) (s1 : Sig), m = 160 - i → (i ≤ 160 ∧ y = i ∧ CI σ0 n Lc opAnd (pNot (σ0 29) n k) R (160 - i) g s1) → Ex K G N ρ sh 8 [some (.ref (ρ 28)), some (.int (iZ u)), some (.int (iZ g)), some (.int (iZ y))] [] s1 := by
    intro m
    induction m using Nat.strongRecOn with
    | ind m ih =>
      intro i g y s1 hm hinv
      obtain ⟨hi, rfl, hC1⟩ := hinv
      have h01 := CI_01 hC1
      refine x_iload_n 9 C dX5_readAnd_8 rfl rfl rfl ?_
      refine x_sipush 12 C dX5_readAnd_9 rfl rfl ?_
      refine x_icmp_ge 50 15 C dX5_readAnd_12 rfl rfl (by omega) (by omega) (fun h12 => ?_) (fun h12 => ?_)
      · have hfin := CI_end_0 hC1 (by omega)
        refine x_iload_n 51 C dX5_readAnd_50 rfl rfl rfl ?_
        refine x_zret C T dX5_readAnd_51 (by omega) ?_
        refine PI_i (by omega) ?_
        first | (rw [pOr_eq]; rw [show pSeq (σ0 29) n opOr (pAnd (σ0 29) n k) p = R from hR]; exact hfin) | (rw [show pAnd (σ0 29) n k p = R from hR]; exact hfin)
      refine x_iload_n 16 C dX5_readAnd_15 rfl rfl rfl ?_
      first
        | refine x_ifb_eq 50 19 C dX5_readAnd_16 rfl rfl (fun h16 => ?_) (fun h16 => ?_)
        | refine x_if_eq 50 19 C dX5_readAnd_16 rfl rfl (by omega) (fun h16 => ?_) (fun h16 => ?_)
      · have hfin := CI_end_g hC1 h16
        refine x_iload_n 51 C dX5_readAnd_50 rfl rfl rfl ?_
        refine x_zret C T dX5_readAnd_51 (by omega) ?_
        refine PI_i (by omega) ?_
        first | (rw [pOr_eq]; rw [show pSeq (σ0 29) n opOr (pAnd (σ0 29) n k) p = R from hR]; exact hfin) | (rw [show pAnd (σ0 29) n k p = R from hR]; exact hfin)
      obtain ⟨hg1, p1, L1, hS1, hl1, hch⟩ := CI_go hC1 h16
      have ht1 := RS_tok hS1
      refine x_aload_n 20 C dX5_readAnd_19 rfl rfl rfl ?_
      refine x_geti (j := 4) 23 C hW.2.1 (by have := hW.1; omega) rfl rfl (by decide) inT5 tb_1_157 rfl dX5_readAnd_20 rfl (fun r20 => ?_)
      refine x_bipush 25 C dX5_readAnd_23 rfl rfl ?_
      refine x_icmp_ne 50 28 C dX5_readAnd_25 rfl rfl (by omega) (by omega) (fun h25 => ?_) (fun h25 => ?_)
      · have hfin := CI_end_t hS1 hch (by unfold opAnd; rw [if_neg (by omega)]) hg1
        refine x_iload_n 51 C dX5_readAnd_50 rfl rfl rfl ?_
        refine x_zret C T dX5_readAnd_51 (by omega) ?_
        refine PI_i (by omega) ?_
        first | (rw [pOr_eq]; rw [show pSeq (σ0 29) n opOr (pAnd (σ0 29) n k) p = R from hR]; exact hfin) | (rw [show pAnd (σ0 29) n k p = R from hR]; exact hfin)
      refine x_aload_n 29 C dX5_readAnd_28 rfl rfl rfl ?_
      refine x_callVv 32 C dX5_readAnd_29 rfl (c_X5_advance (n := n) (p := lxE (σ0 29) n p1) (RS_size hS1) (RS_n hS1) (RS_end hS1) (RS_ele hS1) hW) hW.2.1 (by have := hW.1; omega) rfl tb_1_237 tb_1_239 tb_0_0 tb_1_9 tb_2_0 (na := 0) (by decide +kernel) rfl ⟨by omega, by omega⟩ rfl (Nat.le_of_ble_eq_true rfl) rfl (fun s29 hq29 hR29 => ?_)
      have hS2 := RS_adv hS1 hq29.1 hq29.2
      have hlt := lxE_lt (b := σ0 29) (n := n) (p := p1) (by omega)
      refine x_aload_n 33 C dX5_readAnd_32 rfl rfl rfl ?_
      refine x_iload_n 34 C dX5_readAnd_33 rfl rfl rfl ?_
      refine x_callVi 37 C dX5_readAnd_34 rfl (hI σ0 s29 n _ (Lc ++ L1) u hS2 (by omega) hk) hW.2.1 (by have := hW.1; omega) rfl tb_2_41 tb_2_43 tb_0_8 tb_1_9 tb_2_44 (na := 1) (by decide +kernel) rfl ⟨by omega, by omega⟩ rfl (Nat.le_of_ble_eq_true rfl) rfl (fun z34 s34 hz34 hq34 hR34 => ?_)
      have h02 := PP_01 hq34
      have h03 := PP_cs hq34
      refine x_istore_n2 38 C dX5_readAnd_37 rfl rfl ?_
      refine x_aload_n 39 C dX5_readAnd_38 rfl rfl rfl ?_
      refine x_bipush 41 C dX5_readAnd_39 rfl rfl ?_
      refine x_callVv 44 C dX5_readAnd_41 rfl (c_X5_emit (by omega) (by omega) hW) hW.2.1 (by have := hW.1; omega) rfl tb_2_61 tb_2_63 tb_0_13 tb_1_9 tb_2_64 (na := 1) (by decide +kernel) rfl ⟨by omega, by omega⟩ rfl (Nat.le_of_ble_eq_true rfl) rfl (fun s41 hq41 hR41 => ?_)
      refine x_iinc_3 47 C dX5_readAnd_44 rfl rfl ?_
      refine x_goto 8 C dX5_readAnd_47 rfl ?_
      refine ih _ ?_ (i + 1) _ _ _ rfl ⟨by omega, by omega, ?_⟩
      · omega
      · exact CI_step (c := -8) hg (RS_le hS1) (RS_n hS1) hl1 (by omega) hch (by unfold opAnd; rw [if_pos (by omega)]) (by omega) hq34 hq41
  exact L8 _ 0 _ _ _ rfl ⟨by omega, rfl, hC0⟩

set_option maxHeartbeats 4000000 in
set_option maxRecDepth 100000 in
theorem c_X5_readOr {l : Launch} {G : Gt} {ρ : Nat → Nat} {N : Nat} {sh : Nat → Shc} {σ : Sig} {σ0 : Sig} {n p k : Nat} {Lc : List Int} {u : Int} (hS : RS σ0 n p Lc σ) (hl : Lc.length ≤ p) (hk : u + k = 5 ∧ 0 ≤ u) (hI : PC l G N ρ sh yX5_readAnd cX5_readAnd 4 (13 + 7 * k) (320 + 168 * k) k (fun b n => pAnd b n k)) (hW : RW N sh) : MX l yX5_readOr cX5_readOr 4 (some .boolean) (14 + 7 * k) (344 + 168 * k) G N ρ sh [.ref (ρ 28), .int (iZ u)] σ (PI (fun z σ' => PP σ0 n Lc (pOr (σ0 29) n k p) z σ')) := by
  refine MX_of [some (.ref (ρ 28)), some (.int (iZ u)), none, none] (by decide +kernel) rfl rfl (Nat.le_of_ble_eq_true rfl) ?_
  intro K hKl C T hRng
  subst hKl
  obtain ⟨R, hR⟩ : ∃ R, pOr (σ0 29) n k p = R := ⟨_, rfl⟩
  have hg := pAnd_GQ (σ0 29) n k
  rw [pOr_eq] at hR
  refine x_aload_n 1 C dX5_readOr_0 rfl rfl rfl ?_
  refine x_iload_n 2 C dX5_readOr_1 rfl rfl rfl ?_
  refine x_callVi 5 C dX5_readOr_2 rfl (hI σ0 σ n p Lc u hS hl hk) hW.2.1 (by have := hW.1; omega) rfl tb_2_37 tb_2_39 tb_0_7 tb_1_9 tb_2_40 (na := 1) (by decide +kernel) rfl ⟨by omega, by omega⟩ rfl (Nat.le_of_ble_eq_true rfl) rfl (fun z2 s2 hz2 hq2 hR2 => ?_)
  have hC0 := CI_start (op := opOr) hg (RS_le hS) hl hR hq2
  have h01 := CI_01 hC0
  refine x_istore_n2 6 C dX5_readOr_5 rfl rfl ?_
  refine x_iconst 7 C dX5_readOr_6 rfl ?_
  refine x_istore_n3 8 C dX5_readOr_7 rfl rfl ?_
  have L8 : ∀ (m : Nat) (i : Nat) (g y : Int) (s1 : Sig), m = 160 - i → (i ≤ 160 ∧ y = i ∧ CI σ0 n Lc opOr (pAnd (σ0 29) n k) R (160 - i) g s1) → Ex K G N ρ sh 8 [some (.ref (ρ 28)), some (.int (iZ u)), some (.int (iZ g)), some (.int (iZ y))] [] s1 := by
    intro m
    induction m using Nat.strongRecOn with
    | ind m ih =>
      intro i g y s1 hm hinv
      obtain ⟨hi, rfl, hC1⟩ := hinv
      have h01 := CI_01 hC1
      refine x_iload_n 9 C dX5_readOr_8 rfl rfl rfl ?_
      refine x_sipush 12 C dX5_readOr_9 rfl rfl ?_
      refine x_icmp_ge 50 15 C dX5_readOr_12 rfl rfl (by omega) (by omega) (fun h12 => ?_) (fun h12 => ?_)
      · have hfin := CI_end_0 hC1 (by omega)
        refine x_iload_n 51 C dX5_readOr_50 rfl rfl rfl ?_
        refine x_zret C T dX5_readOr_51 (by omega) ?_
        refine PI_i (by omega) ?_
        first | (rw [pOr_eq]; rw [show pSeq (σ0 29) n opOr (pAnd (σ0 29) n k) p = R from hR]; exact hfin) | (rw [show pOr (σ0 29) n k p = R from hR]; exact hfin)
      refine x_iload_n 16 C dX5_readOr_15 rfl rfl rfl ?_
      first
        | refine x_ifb_eq 50 19 C dX5_readOr_16 rfl rfl (fun h16 => ?_) (fun h16 => ?_)
        | refine x_if_eq 50 19 C dX5_readOr_16 rfl rfl (by omega) (fun h16 => ?_) (fun h16 => ?_)
      · have hfin := CI_end_g hC1 h16
        refine x_iload_n 51 C dX5_readOr_50 rfl rfl rfl ?_
        refine x_zret C T dX5_readOr_51 (by omega) ?_
        refine PI_i (by omega) ?_
        first | (rw [pOr_eq]; rw [show pSeq (σ0 29) n opOr (pAnd (σ0 29) n k) p = R from hR]; exact hfin) | (rw [show pOr (σ0 29) n k p = R from hR]; exact hfin)
      obtain ⟨hg1, p1, L1, hS1, hl1, hch⟩ := CI_go hC1 h16
      have ht1 := RS_tok hS1
      refine x_aload_n 20 C dX5_readOr_19 rfl rfl rfl ?_
      refine x_geti (j := 4) 23 C hW.2.1 (by have := hW.1; omega) rfl rfl (by decide) inT5 tb_1_157 rfl dX5_readOr_20 rfl (fun r20 => ?_)
      refine x_bipush 25 C dX5_readOr_23 rfl rfl ?_
      refine x_icmp_ne 50 28 C dX5_readOr_25 rfl rfl (by omega) (by omega) (fun h25 => ?_) (fun h25 => ?_)
      · have hfin := CI_end_t hS1 hch (by unfold opOr; rw [if_neg (by omega)]) hg1
        refine x_iload_n 51 C dX5_readOr_50 rfl rfl rfl ?_
        refine x_zret C T dX5_readOr_51 (by omega) ?_
        refine PI_i (by omega) ?_
        first | (rw [pOr_eq]; rw [show pSeq (σ0 29) n opOr (pAnd (σ0 29) n k) p = R from hR]; exact hfin) | (rw [show pOr (σ0 29) n k p = R from hR]; exact hfin)
      refine x_aload_n 29 C dX5_readOr_28 rfl rfl rfl ?_
      refine x_callVv 32 C dX5_readOr_29 rfl (c_X5_advance (n := n) (p := lxE (σ0 29) n p1) (RS_size hS1) (RS_n hS1) (RS_end hS1) (RS_ele hS1) hW) hW.2.1 (by have := hW.1; omega) rfl tb_1_237 tb_1_239 tb_0_0 tb_1_9 tb_2_0 (na := 0) (by decide +kernel) rfl ⟨by omega, by omega⟩ rfl (Nat.le_of_ble_eq_true rfl) rfl (fun s29 hq29 hR29 => ?_)
      have hS2 := RS_adv hS1 hq29.1 hq29.2
      have hlt := lxE_lt (b := σ0 29) (n := n) (p := p1) (by omega)
      refine x_aload_n 33 C dX5_readOr_32 rfl rfl rfl ?_
      refine x_iload_n 34 C dX5_readOr_33 rfl rfl rfl ?_
      refine x_callVi 37 C dX5_readOr_34 rfl (hI σ0 s29 n _ (Lc ++ L1) u hS2 (by omega) hk) hW.2.1 (by have := hW.1; omega) rfl tb_2_37 tb_2_39 tb_0_7 tb_1_9 tb_2_40 (na := 1) (by decide +kernel) rfl ⟨by omega, by omega⟩ rfl (Nat.le_of_ble_eq_true rfl) rfl (fun z34 s34 hz34 hq34 hR34 => ?_)
      have h02 := PP_01 hq34
      have h03 := PP_cs hq34
      refine x_istore_n2 38 C dX5_readOr_37 rfl rfl ?_
      refine x_aload_n 39 C dX5_readOr_38 rfl rfl rfl ?_
      refine x_bipush 41 C dX5_readOr_39 rfl rfl ?_
      refine x_callVv 44 C dX5_readOr_41 rfl (c_X5_emit (by omega) (by omega) hW) hW.2.1 (by have := hW.1; omega) rfl tb_2_61 tb_2_63 tb_0_13 tb_1_9 tb_2_64 (na := 1) (by decide +kernel) rfl ⟨by omega, by omega⟩ rfl (Nat.le_of_ble_eq_true rfl) rfl (fun s41 hq41 hR41 => ?_)
      refine x_iinc_3 47 C dX5_readOr_44 rfl rfl ?_
      refine x_goto 8 C dX5_readOr_47 rfl ?_
      refine ih _ ?_ (i + 1) _ _ _ rfl ⟨by omega, by omega, ?_⟩
      · omega
      · exact CI_step (c := -7) hg (RS_le hS1) (RS_n hS1) hl1 (by omega) hch (by unfold opOr; rw [if_pos (by omega)]) (by omega) hq34 hq41
  exact L8 _ 0 _ _ _ rfl ⟨by omega, rfl, hC0⟩

set_option maxHeartbeats 4000000 in
set_option maxRecDepth 100000 in
theorem c_X5_readSum {l : Launch} {G : Gt} {ρ : Nat → Nat} {N : Nat} {sh : Nat → Shc} {σ : Sig} {σ0 : Sig} {n p k : Nat} {Lc : List Int} {u : Int} (hS : RS σ0 n p Lc σ) (hl : Lc.length ≤ p) (hk : u + k = 5 ∧ 0 ≤ u) (hI : PC l G N ρ sh yX5_readTerm cX5_readTerm 4 (9 + 7 * k) (224 + 168 * k) k (fun b n => pTerm b n k)) (hW : RW N sh) : MX l yX5_readSum cX5_readSum 5 (some .boolean) (10 + 7 * k) (248 + 168 * k) G N ρ sh [.ref (ρ 28), .int (iZ u)] σ (PI (fun z σ' => PP σ0 n Lc (pSum (σ0 29) n k p) z σ')) := by
  refine MX_of [some (.ref (ρ 28)), some (.int (iZ u)), none, none, none] (by decide +kernel) rfl rfl (Nat.le_of_ble_eq_true rfl) ?_
  intro K hKl C T hRng
  subst hKl
  obtain ⟨R, hR⟩ : ∃ R, pSum (σ0 29) n k p = R := ⟨_, rfl⟩
  have hg := pTerm_GQ (σ0 29) n k
  refine x_aload_n 1 C dX5_readSum_0 rfl rfl rfl ?_
  refine x_iload_n 2 C dX5_readSum_1 rfl rfl rfl ?_
  refine x_callVi 5 C dX5_readSum_2 rfl (hI σ0 σ n p Lc u hS hl hk) hW.2.1 (by have := hW.1; omega) rfl tb_2_53 tb_2_55 tb_0_11 tb_1_9 tb_2_56 (na := 1) (by decide +kernel) rfl ⟨by omega, by omega⟩ rfl (Nat.le_of_ble_eq_true rfl) rfl (fun z2 s2 hz2 hq2 hR2 => ?_)
  have hC0 := CI_start (op := opAdd) hg (RS_le hS) hl hR hq2
  have h01 := CI_01 hC0
  refine x_istore_n2 6 C dX5_readSum_5 rfl rfl ?_
  refine x_iconst 7 C dX5_readSum_6 rfl ?_
  refine x_istore_n3 8 C dX5_readSum_7 rfl rfl ?_
  have L8 : ∀ (m : Nat) (i : Nat) (g y : Int) (s1 : Sig), m = 160 - i → (i ≤ 160 ∧ y = i ∧ CI σ0 n Lc opAdd (pTerm (σ0 29) n k) R (160 - i) g s1) → Ex K G N ρ sh 8 [some (.ref (ρ 28)), some (.int (iZ u)), some (.int (iZ g)), some (.int (iZ y)), none] [] s1 := by
    intro m
    induction m using Nat.strongRecOn with
    | ind m ih =>
      intro i g y s1 hm hinv
      obtain ⟨hi, rfl, hC1⟩ := hinv
      have h01 := CI_01 hC1
      refine x_iload_n 9 C dX5_readSum_8 rfl rfl rfl ?_
      refine x_sipush 12 C dX5_readSum_9 rfl rfl ?_
      refine x_icmp_ge 77 15 C dX5_readSum_12 rfl rfl (by omega) (by omega) (fun h12 => ?_) (fun h12 => ?_)
      · have hfin := CI_end_0 hC1 (by omega)
        refine x_iload_n 78 C dX5_readSum_77 rfl rfl rfl ?_
        refine x_zret C T dX5_readSum_78 (by omega) ?_
        refine PI_i (by omega) ?_
        rw [show pSum (σ0 29) n k p = R from hR]; exact hfin
      refine x_iload_n 16 C dX5_readSum_15 rfl rfl rfl ?_
      first
        | refine x_ifb_eq 77 19 C dX5_readSum_16 rfl rfl (fun h16 => ?_) (fun h16 => ?_)
        | refine x_if_eq 77 19 C dX5_readSum_16 rfl rfl (by omega) (fun h16 => ?_) (fun h16 => ?_)
      · have hfin := CI_end_g hC1 h16
        refine x_iload_n 78 C dX5_readSum_77 rfl rfl rfl ?_
        refine x_zret C T dX5_readSum_78 (by omega) ?_
        refine PI_i (by omega) ?_
        rw [show pSum (σ0 29) n k p = R from hR]; exact hfin
      obtain ⟨hg1, p1, L1, hS1, hl1, hch⟩ := CI_go hC1 h16
      have ht1 := RS_tok hS1
      have J37 : ∀ (v : Unit), (lxT (σ0 29) n p1 = 43 ∨ lxT (σ0 29) n p1 = 45) → Ex K G N ρ sh 37 [some (.ref (ρ 28)), some (.int (iZ u)), some (.int (iZ g)), some (.int (iZ (i : Int))), none] [] s1 := by
        intro v hinv
        have ht43 := hinv
        have J53 : ∀ (w : Int), (opAdd (lxT (σ0 29) n p1) = some w ∧ (w = -12 ∨ w = -13)) → Ex K G N ρ sh 53 [some (.ref (ρ 28)), some (.int (iZ u)), some (.int (iZ g)), some (.int (iZ (i : Int))), none] [.int (iZ w)] s1 := by
          intro w hinv
          obtain ⟨hop, hw⟩ := hinv
          refine x_istore_4 55 C dX5_readSum_53 rfl rfl ?_
          refine x_aload_n 56 C dX5_readSum_55 rfl rfl rfl ?_
          refine x_callVv 59 C dX5_readSum_56 rfl (c_X5_advance (n := n) (p := lxE (σ0 29) n p1) (RS_size hS1) (RS_n hS1) (RS_end hS1) (RS_ele hS1) hW) hW.2.1 (by have := hW.1; omega) rfl tb_1_237 tb_1_239 tb_0_0 tb_1_9 tb_2_0 (na := 0) (by decide +kernel) rfl ⟨by omega, by omega⟩ rfl (Nat.le_of_ble_eq_true rfl) rfl (fun s56 hq56 hR56 => ?_)
          have hS2 := RS_adv hS1 hq56.1 hq56.2
          have hlt := lxE_lt (b := σ0 29) (n := n) (p := p1) (by omega)
          refine x_aload_n 60 C dX5_readSum_59 rfl rfl rfl ?_
          refine x_iload_n 61 C dX5_readSum_60 rfl rfl rfl ?_
          refine x_callVi 64 C dX5_readSum_61 rfl (hI σ0 s56 n _ (Lc ++ L1) u hS2 (by omega) hk) hW.2.1 (by have := hW.1; omega) rfl tb_2_53 tb_2_55 tb_0_11 tb_1_9 tb_2_56 (na := 1) (by decide +kernel) rfl ⟨by omega, by omega⟩ rfl (Nat.le_of_ble_eq_true rfl) rfl (fun z61 s61 hz61 hq61 hR61 => ?_)
          have h02 := PP_01 hq61
          have h03 := PP_cs hq61
          refine x_istore_n2 65 C dX5_readSum_64 rfl rfl ?_
          refine x_aload_n 66 C dX5_readSum_65 rfl rfl rfl ?_
          refine x_iload 68 C dX5_readSum_66 rfl rfl ?_
          refine x_callVv 71 C dX5_readSum_68 rfl (c_X5_emit (by omega) (by omega) hW) hW.2.1 (by have := hW.1; omega) rfl tb_2_61 tb_2_63 tb_0_13 tb_1_9 tb_2_64 (na := 1) (by decide +kernel) rfl ⟨by omega, by omega⟩ rfl (Nat.le_of_ble_eq_true rfl) rfl (fun s68 hq68 hR68 => ?_)
          refine x_iinc_3 74 C dX5_readSum_71 rfl rfl ?_
          refine x_goto 8 C dX5_readSum_74 rfl ?_
          refine x_drop_4 ?_
          refine ih _ ?_ (i + 1) _ _ _ rfl ⟨by omega, by omega, ?_⟩
          · omega
          · exact CI_step (c := w) hg (RS_le hS1) (RS_n hS1) hl1 (by omega) hch hop (by omega) hq61 hq68
        refine x_aload_n 38 C dX5_readSum_37 rfl rfl rfl ?_
        refine x_geti (j := 4) 41 C hW.2.1 (by have := hW.1; omega) rfl rfl (by decide) inT5 tb_1_157 rfl dX5_readSum_38 rfl (fun r38 => ?_)
        refine x_bipush 43 C dX5_readSum_41 rfl rfl ?_
        refine x_icmp_ne 51 46 C dX5_readSum_43 rfl rfl (by omega) (by omega) (fun h43 => ?_) (fun h43 => ?_)
        · refine x_bipush 53 C dX5_readSum_51 rfl rfl ?_
          refine J53 _ ⟨?_, by omega⟩
          unfold opAdd
          first | (rw [if_pos (by omega)]; done) | (rw [if_neg (by omega), if_pos (by omega)])
        refine x_bipush 48 C dX5_readSum_46 rfl rfl ?_
        refine x_goto 53 C dX5_readSum_48 rfl ?_
        refine J53 _ ⟨?_, by omega⟩
        unfold opAdd
        first | (rw [if_pos (by omega)]; done) | (rw [if_neg (by omega), if_pos (by omega)])
      refine x_aload_n 20 C dX5_readSum_19 rfl rfl rfl ?_
      refine x_geti (j := 4) 23 C hW.2.1 (by have := hW.1; omega) rfl rfl (by decide) inT5 tb_1_157 rfl dX5_readSum_20 rfl (fun r20 => ?_)
      refine x_bipush 25 C dX5_readSum_23 rfl rfl ?_
      refine x_icmp_eq 37 28 C dX5_readSum_25 rfl rfl (by omega) (by omega) (fun h25 => ?_) (fun h25 => ?_)
      · exact J37 () (by omega)
      refine x_aload_n 29 C dX5_readSum_28 rfl rfl rfl ?_
      refine x_geti (j := 4) 32 C hW.2.1 (by have := hW.1; omega) rfl rfl (by decide) inT5 tb_1_157 rfl dX5_readSum_29 rfl (fun r29 => ?_)
      refine x_bipush 34 C dX5_readSum_32 rfl rfl ?_
      refine x_icmp_ne 77 37 C dX5_readSum_34 rfl rfl (by omega) (by omega) (fun h34 => ?_) (fun h34 => ?_)
      · have hfin := CI_end_t hS1 hch (by unfold opAdd; rw [if_neg (by omega), if_neg (by omega)]) hg1
        refine x_iload_n 78 C dX5_readSum_77 rfl rfl rfl ?_
        refine x_zret C T dX5_readSum_78 (by omega) ?_
        refine PI_i (by omega) ?_
        rw [show pSum (σ0 29) n k p = R from hR]; exact hfin
      exact J37 () (by omega)
  exact L8 _ 0 _ _ _ rfl ⟨by omega, rfl, hC0⟩

theorem pCmp_f {b : Nat → Int} {n p a : Nat} {q : Nat → Pr} (h : q p = .inr a) : pCmp b n q p = .inr a := by unfold pCmp; rw [h]
theorem pCmp_n {b : Nat → Int} {n p p1 : Nat} {L1 : List Int} {q : Nat → Pr} (h : q p = .inl (p1, L1)) (ht : ¬ (lxT b n p1 = 60 ∨ lxT b n p1 = 61)) : pCmp b n q p = .inl (p1, L1) := by unfold pCmp; rw [h]; dsimp only; rw [if_neg ht]
theorem pCmp_s {b : Nat → Int} {n p p1 : Nat} {L1 : List Int} {q : Nat → Pr} (h : q p = .inl (p1, L1)) (ht : lxT b n p1 = 60 ∨ lxT b n p1 = 61) : pCmp b n q p = (match q (lxE b n p1) with
      | .inr a => .inr a
      | .inl (p2, L2) => .inl (p2, L1 ++ L2 ++ [if lxT b n p1 = 60 then -10 else -11])) := by unfold pCmp; rw [h]; dsimp only; rw [if_pos ht]; cases q (lxE b n p1) <;> rfl
theorem PP_cases {σ0 s : Sig} {n : Nat} {Lc : List Int} {R : Pr} {z : Int} (h : PP σ0 n Lc R z s) : (∃ p1 L1, R = .inl (p1, L1) ∧ z = 1 ∧ RS σ0 n p1 (Lc ++ L1) s) ∨ (∃ a, R = .inr a ∧ z = 0 ∧ RF σ0 a s) := by
  cases R with
  | inl r => exact Or.inl ⟨r.1, r.2, rfl, h.1, h.2⟩
  | inr a => exact Or.inr ⟨a, rfl, h.1, h.2⟩
/-- behind a second part comes its deed -/
theorem PP_deed {σ0 s s' : Sig} {n p2 D : Nat} {Lc L1 : List Int} {q : Nat → Pr} {g c : Int} (hq : GQ (σ0 29) n D q) (hp : p2 ≤ n) (hn : n ≤ 160) (hl : (Lc ++ L1).length < p2) (h : PP σ0 n (Lc ++ L1) (q p2) g s) (he : EM c s s') {R : Pr} (hR : R = (match q p2 with
      | .inr a => .inr a
      | .inl (p3, L2) => .inl (p3, L1 ++ L2 ++ [c]))) : PP σ0 n Lc R g s' := by
  subst hR
  cases hqp : q p2 with
  | inl r =>
    obtain ⟨p3, L2⟩ := r
    rw [hqp] at h
    obtain ⟨h1, h2⟩ := PP_r h
    obtain ⟨a1, a2, a3, -⟩ := hq _ hp _ _ hqp
    have := RS_emit h2 (by rw [List.length_append]; omega) he
    rw [show Lc ++ L1 ++ L2 ++ [c] = Lc ++ (L1 ++ L2 ++ [c]) by simp [List.append_assoc]] at this
    exact ⟨h1, this⟩
  | inr a =>
    rw [hqp] at h
    obtain ⟨h1, h2⟩ := PP_f h
    exact ⟨h1, RF_emit h2 he⟩
set_option maxHeartbeats 4000000 in
set_option maxRecDepth 100000 in
theorem c_X5_readComparison {l : Launch} {G : Gt} {ρ : Nat → Nat} {N : Nat} {sh : Nat → Shc} {σ : Sig} {σ0 : Sig} {n p k : Nat} {Lc : List Int} {u : Int} (hS : RS σ0 n p Lc σ) (hl : Lc.length ≤ p) (hk : u + k = 5 ∧ 0 ≤ u) (hI : PC l G N ρ sh yX5_readSum cX5_readSum 5 (10 + 7 * k) (248 + 168 * k) k (fun b n => pSum b n k)) (hW : RW N sh) : MX l yX5_readComparison cX5_readComparison 4 (some .boolean) (11 + 7 * k) (272 + 168 * k) G N ρ sh [.ref (ρ 28), .int (iZ u)] σ (PI (fun z σ' => PP σ0 n Lc (pCmp (σ0 29) n (pSum (σ0 29) n k) p) z σ')) := by
  refine MX_of [some (.ref (ρ 28)), some (.int (iZ u)), none, none] (by decide +kernel) rfl rfl (Nat.le_of_ble_eq_true rfl) ?_
  intro K hKl C T hRng
  subst hKl
  have hg := pSum_GQ (σ0 29) n k
  refine x_aload_n 1 C dX5_readComparison_0 rfl rfl rfl ?_
  refine x_iload_n 2 C dX5_readComparison_1 rfl rfl rfl ?_
  refine x_callVi 5 C dX5_readComparison_2 rfl (hI σ0 σ n p Lc u hS hl hk) hW.2.1 (by have := hW.1; omega) rfl tb_2_49 tb_2_51 tb_0_10 tb_1_9 tb_2_52 (na := 1) (by decide +kernel) rfl ⟨by omega, by omega⟩ rfl (Nat.le_of_ble_eq_true rfl) rfl (fun z2 s2 hz2 hq2 hR2 => ?_)
  have h01 := PP_01 hq2
  first
    | refine x_ifb_ne 10 8 C dX5_readComparison_5 rfl rfl (fun h5 => ?_) (fun h5 => ?_)
    | refine x_if_ne 10 8 C dX5_readComparison_5 rfl rfl (by omega) (fun h5 => ?_) (fun h5 => ?_)
  rotate_left
  · have hz2 : z2 = 0 := by omega
    have hfin : PP σ0 n Lc (pCmp (σ0 29) n (pSum (σ0 29) n k) p) 0 s2 := by
      rcases PP_cases hq2 with ⟨p1, L1, e1, e2, e3⟩ | ⟨a, e1, e2, e3⟩
      · omega
      · rw [pCmp_f e1]; exact ⟨rfl, e3⟩
    refine x_iconst 9 C dX5_readComparison_8 rfl ?_
    refine x_zret C T dX5_readComparison_9 (by omega) ?_
    refine PI_i (by omega) ?_
    first
      | exact hfin
      | exact PP_deed (c := w) hg (RS_ele hS1) (RS_n hS1) (by omega) hq53 hq59 (by rw [hinv]; exact pCmp_s hr1 ht60)
  obtain ⟨p1, L1, hr1, hS1, hlp⟩ : ∃ p1 L1, pSum (σ0 29) n k p = .inl (p1, L1) ∧ RS σ0 n p1 (Lc ++ L1) s2 ∧ (Lc ++ L1).length ≤ p1 := by
    rcases PP_cases hq2 with ⟨p1, L1, e1, e2, e3⟩ | ⟨a, e1, e2, e3⟩
    · obtain ⟨a1, a2, a3, -⟩ := hg p (RS_le hS) _ _ e1
      exact ⟨p1, L1, e1, e3, by rw [List.length_append]; omega⟩
    · omega
  have ht1 := RS_tok hS1
  have J30 : ∀ (v : Unit), (lxT (σ0 29) n p1 = 60 ∨ lxT (σ0 29) n p1 = 61) → Ex K G N ρ sh 30 [some (.ref (ρ 28)), some (.int (iZ u)), none, none] [] s2 := by
    intro v hinv
    have ht60 := hinv
    have J46 : ∀ (w : Int), (w = (if lxT (σ0 29) n p1 = 60 then -10 else -11)) → Ex K G N ρ sh 46 [some (.ref (ρ 28)), some (.int (iZ u)), none, none] [.int (iZ w)] s2 := by
      intro w hinv
      have hw : w = -10 ∨ w = -11 := by rw [hinv]; split <;> omega
      refine x_istore_n2 47 C dX5_readComparison_46 rfl rfl ?_
      refine x_aload_n 48 C dX5_readComparison_47 rfl rfl rfl ?_
      refine x_callVv 51 C dX5_readComparison_48 rfl (c_X5_advance (n := n) (p := lxE (σ0 29) n p1) (RS_size hS1) (RS_n hS1) (RS_end hS1) (RS_ele hS1) hW) hW.2.1 (by have := hW.1; omega) rfl tb_1_237 tb_1_239 tb_0_0 tb_1_9 tb_2_0 (na := 0) (by decide +kernel) rfl ⟨by omega, by omega⟩ rfl (Nat.le_of_ble_eq_true rfl) rfl (fun s48 hq48 hR48 => ?_)
      have hS2 := RS_adv hS1 hq48.1 hq48.2
      have hlt := lxE_lt (b := σ0 29) (n := n) (p := p1) (by omega)
      refine x_aload_n 52 C dX5_readComparison_51 rfl rfl rfl ?_
      refine x_iload_n 53 C dX5_readComparison_52 rfl rfl rfl ?_
      refine x_callVi 56 C dX5_readComparison_53 rfl (hI σ0 s48 n _ (Lc ++ L1) u hS2 (by omega) hk) hW.2.1 (by have := hW.1; omega) rfl tb_2_49 tb_2_51 tb_0_10 tb_1_9 tb_2_52 (na := 1) (by decide +kernel) rfl ⟨by omega, by omega⟩ rfl (Nat.le_of_ble_eq_true rfl) rfl (fun z53 s53 hz53 hq53 hR53 => ?_)
      have h02 := PP_01 hq53
      have h03 := PP_cs hq53
      refine x_istore_n3 57 C dX5_readComparison_56 rfl rfl ?_
      refine x_aload_n 58 C dX5_readComparison_57 rfl rfl rfl ?_
      refine x_iload_n 59 C dX5_readComparison_58 rfl rfl rfl ?_
      refine x_callVv 62 C dX5_readComparison_59 rfl (c_X5_emit (by omega) (by omega) hW) hW.2.1 (by have := hW.1; omega) rfl tb_2_61 tb_2_63 tb_0_13 tb_1_9 tb_2_64 (na := 1) (by decide +kernel) rfl ⟨by omega, by omega⟩ rfl (Nat.le_of_ble_eq_true rfl) rfl (fun s59 hq59 hR59 => ?_)
      refine x_iload_n 63 C dX5_readComparison_62 rfl rfl rfl ?_
      refine x_zret C T dX5_readComparison_63 (by omega) ?_
      refine PI_i (by omega) ?_
      first
        | exact hfin
        | exact PP_deed (c := w) hg (RS_ele hS1) (RS_n hS1) (by omega) hq53 hq59 (by rw [hinv]; exact pCmp_s hr1 ht60)
    refine x_aload_n 31 C dX5_readComparison_30 rfl rfl rfl ?_
    refine x_geti (j := 4) 34 C hW.2.1 (by have := hW.1; omega) rfl rfl (by decide) inT5 tb_1_157 rfl dX5_readComparison_31 rfl (fun r31 => ?_)
    refine x_bipush 36 C dX5_readComparison_34 rfl rfl ?_
    refine x_icmp_ne 44 39 C dX5_readComparison_36 rfl rfl (by omega) (by omega) (fun h36 => ?_) (fun h36 => ?_)
    · refine x_bipush 46 C dX5_readComparison_44 rfl rfl ?_
      exact J46 _ (by first | rw [if_pos (by omega)] | rw [if_neg (by omega)])
    refine x_bipush 41 C dX5_readComparison_39 rfl rfl ?_
    refine x_goto 46 C dX5_readComparison_41 rfl ?_
    exact J46 _ (by first | rw [if_pos (by omega)] | rw [if_neg (by omega)])
  refine x_aload_n 11 C dX5_readComparison_10 rfl rfl rfl ?_
  refine x_geti (j := 4) 14 C hW.2.1 (by have := hW.1; omega) rfl rfl (by decide) inT5 tb_1_157 rfl dX5_readComparison_11 rfl (fun r11 => ?_)
  refine x_bipush 16 C dX5_readComparison_14 rfl rfl ?_
  refine x_icmp_eq 30 19 C dX5_readComparison_16 rfl rfl (by omega) (by omega) (fun h16 => ?_) (fun h16 => ?_)
  · exact J30 () (by omega)
  refine x_aload_n 20 C dX5_readComparison_19 rfl rfl rfl ?_
  refine x_geti (j := 4) 23 C hW.2.1 (by have := hW.1; omega) rfl rfl (by decide) inT5 tb_1_157 rfl dX5_readComparison_20 rfl (fun r20 => ?_)
  refine x_bipush 25 C dX5_readComparison_23 rfl rfl ?_
  refine x_icmp_eq 30 28 C dX5_readComparison_25 rfl rfl (by omega) (by omega) (fun h25 => ?_) (fun h25 => ?_)
  · exact J30 () (by omega)
  have hfin : PP σ0 n Lc (pCmp (σ0 29) n (pSum (σ0 29) n k) p) 1 s2 := by rw [pCmp_n hr1 (by omega)]; exact ⟨rfl, hS1⟩
  refine x_iconst 29 C dX5_readComparison_28 rfl ?_
  refine x_zret C T dX5_readComparison_29 (by omega) ?_
  refine PI_i (by omega) ?_
  first
    | exact hfin
    | exact PP_deed (c := w) hg (RS_ele hS1) (RS_n hS1) (by omega) hq53 hq59 (by rw [hinv]; exact pCmp_s hr1 ht60)

set_option maxHeartbeats 4000000 in
set_option maxRecDepth 100000 in
theorem c_X5_readNot {l : Launch} {G : Gt} {ρ : Nat → Nat} {N : Nat} {sh : Nat → Shc} {σ : Sig} {σ0 : Sig} {n p k : Nat} {Lc : List Int} {u : Int} (hS : RS σ0 n p Lc σ) (hl : Lc.length ≤ p) (hk : u + k = 5 ∧ 0 ≤ u) (hI : PC l G N ρ sh yX5_readComparison cX5_readComparison 4 (11 + 7 * k) (272 + 168 * k) k (fun b n => pCmp b n (pSum b n k))) (hN : ∀ k', k' + 1 = k → PC l G N ρ sh yX5_readNot cX5_readNot 3 (12 + 7 * k') (296 + 168 * k') (k') (fun b n => pNot b n k')) (hW : RW N sh) : MX l yX5_readNot cX5_readNot 3 (some .boolean) (12 + 7 * k) (296 + 168 * k) G N ρ sh [.ref (ρ 28), .int (iZ u)] σ (PI (fun z σ' => PP σ0 n Lc (pNot (σ0 29) n k p) z σ')) := by
  refine MX_of [some (.ref (ρ 28)), some (.int (iZ u)), none] (by decide +kernel) rfl rfl (Nat.le_of_ble_eq_true rfl) ?_
  intro K hKl C T hRng
  subst hKl
  have htok := RS_tok hS
  refine x_aload_n 1 C dX5_readNot_0 rfl rfl rfl ?_
  refine x_geti (j := 4) 4 C hW.2.1 (by have := hW.1; omega) rfl rfl (by decide) inT5 tb_1_157 rfl dX5_readNot_1 rfl (fun r1 => ?_)
  refine x_bipush 6 C dX5_readNot_4 rfl rfl ?_
  refine x_icmp_eq 15 9 C dX5_readNot_6 rfl rfl (by omega) (by omega) (fun h6 => ?_) (fun h6 => ?_)
  rotate_left
  · refine x_aload_n 10 C dX5_readNot_9 rfl rfl rfl ?_
    refine x_iload_n 11 C dX5_readNot_10 rfl rfl rfl ?_
    refine x_callVi 14 C dX5_readNot_11 rfl (hI σ0 σ n p Lc u hS hl hk) hW.2.1 (by have := hW.1; omega) rfl tb_2_45 tb_2_47 tb_0_9 tb_1_9 tb_2_48 (na := 1) (by decide +kernel) rfl ⟨by omega, by omega⟩ rfl (Nat.le_of_ble_eq_true rfl) rfl (fun z11 s11 hz11 hq11 hR11 => ?_)
    have h01 := PP_01 hq11
    refine x_zret C T dX5_readNot_14 (by omega) ?_
    refine PI_i (by omega) ?_
    first
      | (rw [pNot_n (by omega)]; exact hq11)
      | (obtain rfl : k = 0 := by omega
         rw [pNot_0 (by omega)]; exact ⟨rfl, RS_RF hS⟩)
      | exact PP_deed (c := -9) (L1 := []) (q := pNot (σ0 29) n k') (parse_GQ (σ0 29) n k').2.1 (RS_ele hS) (RS_n hS) (by simp only [List.append_nil]; omega) (by simp only [List.append_nil]; exact hq30) hq37 (by rw [pNot_s (by omega)]; rfl)
  refine x_iload_n 16 C dX5_readNot_15 rfl rfl rfl ?_
  refine x_iconst 17 C dX5_readNot_16 rfl ?_
  refine x_icmp_lt 22 20 C dX5_readNot_17 rfl rfl (by omega) (by omega) (fun h17 => ?_) (fun h17 => ?_)
  · refine x_aload_n 23 C dX5_readNot_22 rfl rfl rfl ?_
    refine x_callVv 26 C dX5_readNot_23 rfl (c_X5_advance (n := n) (p := lxE (σ0 29) n p) (RS_size hS) (RS_n hS) (RS_end hS) (RS_ele hS) hW) hW.2.1 (by have := hW.1; omega) rfl tb_1_237 tb_1_239 tb_0_0 tb_1_9 tb_2_0 (na := 0) (by decide +kernel) rfl ⟨by omega, by omega⟩ rfl (Nat.le_of_ble_eq_true rfl) rfl (fun s23 hq23 hR23 => ?_)
    have hS2 := RS_adv hS hq23.1 hq23.2
    have hlt := lxE_lt (b := σ0 29) (n := n) (p := p) (by omega)
    obtain ⟨k', rfl⟩ : ∃ k', k = k' + 1 := ⟨k - 1, by omega⟩
    refine x_aload_n 27 C dX5_readNot_26 rfl rfl rfl ?_
    refine x_iload_n 28 C dX5_readNot_27 rfl rfl rfl ?_
    refine x_iconst 29 C dX5_readNot_28 rfl ?_
    refine x_iadd 30 C dX5_readNot_29 rfl ?_
    refine x_callVi 33 C dX5_readNot_30 rfl (hN k' rfl σ0 s23 n _ Lc (u + 1) hS2 (by omega) (by omega)) hW.2.1 (by have := hW.1; omega) rfl tb_2_41 tb_2_43 tb_0_8 tb_1_9 tb_2_44 (na := 1) (by decide +kernel) rfl ⟨by omega, by omega⟩ rfl (Nat.le_of_ble_eq_true rfl) rfl (fun z30 s30 hz30 hq30 hR30 => ?_)
    have h02 := PP_01 hq30
    have h03 := PP_cs hq30
    refine x_istore_n2 34 C dX5_readNot_33 rfl rfl ?_
    refine x_aload_n 35 C dX5_readNot_34 rfl rfl rfl ?_
    refine x_bipush 37 C dX5_readNot_35 rfl rfl ?_
    refine x_callVv 40 C dX5_readNot_37 rfl (c_X5_emit (by omega) (by omega) hW) hW.2.1 (by have := hW.1; omega) rfl tb_2_61 tb_2_63 tb_0_13 tb_1_9 tb_2_64 (na := 1) (by decide +kernel) rfl ⟨by omega, by omega⟩ rfl (Nat.le_of_ble_eq_true rfl) rfl (fun s37 hq37 hR37 => ?_)
    refine x_iload_n 41 C dX5_readNot_40 rfl rfl rfl ?_
    refine x_zret C T dX5_readNot_41 (by omega) ?_
    refine PI_i (by omega) ?_
    first
      | (rw [pNot_n (by omega)]; exact hq11)
      | (obtain rfl : k = 0 := by omega
         rw [pNot_0 (by omega)]; exact ⟨rfl, RS_RF hS⟩)
      | exact PP_deed (c := -9) (L1 := []) (q := pNot (σ0 29) n k') (parse_GQ (σ0 29) n k').2.1 (RS_ele hS) (RS_n hS) (by simp only [List.append_nil]; omega) (by simp only [List.append_nil]; exact hq30) hq37 (by rw [pNot_s (by omega)]; rfl)
  refine x_iconst 21 C dX5_readNot_20 rfl ?_
  refine x_zret C T dX5_readNot_21 (by omega) ?_
  refine PI_i (by omega) ?_
  first
    | (rw [pNot_n (by omega)]; exact hq11)
    | (obtain rfl : k = 0 := by omega
       rw [pNot_0 (by omega)]; exact ⟨rfl, RS_RF hS⟩)
    | exact PP_deed (c := -9) (L1 := []) (q := pNot (σ0 29) n k') (parse_GQ (σ0 29) n k').2.1 (RS_ele hS) (RS_n hS) (by simp only [List.append_nil]; omega) (by simp only [List.append_nil]; exact hq30) hq37 (by rw [pNot_s (by omega)]; rfl)

set_option maxHeartbeats 4000000 in
set_option maxRecDepth 100000 in
theorem c_X5_readOne {l : Launch} {G : Gt} {ρ : Nat → Nat} {N : Nat} {sh : Nat → Shc} {σ : Sig} {σ0 : Sig} {n p k : Nat} {Lc : List Int} {u : Int} (hS : RS σ0 n p Lc σ) (hl : Lc.length ≤ p) (hk : u + k = 5 ∧ 0 ≤ u) (hO : ∀ k', k' + 1 = k → PC l G N ρ sh yX5_readOne cX5_readOne 3 (8 + 7 * k') (200 + 168 * k') (k') (fun b n => pOne b n k')) (hE : ∀ k', k' + 1 = k → PC l G N ρ sh yX5_readOr cX5_readOr 4 (14 + 7 * k') (344 + 168 * k') (k') (fun b n => pOr b n k')) (hW : RW N sh) : MX l yX5_readOne cX5_readOne 3 (some .boolean) (8 + 7 * k) (200 + 168 * k) G N ρ sh [.ref (ρ 28), .int (iZ u)] σ (PI (fun z σ' => PP σ0 n Lc (pOne (σ0 29) n k p) z σ')) := by
  refine MX_of [some (.ref (ρ 28)), some (.int (iZ u)), none] (by decide +kernel) rfl rfl (Nat.le_of_ble_eq_true rfl) ?_
  intro K hKl C T hRng
  subst hKl
  have htok := RS_tok hS
  have hcs := RS_cs hS
  have hnn := RS_n hS
  have hpn := RS_le hS
  have J16 : ∀ (v : Unit), (lxT (σ0 29) n p = 2 ∨ lxT (σ0 29) n p = 3) → Ex K G N ρ sh 16 [some (.ref (ρ 28)), some (.int (iZ u)), none] [] σ := by
    intro v hinv
    have hv := RS_val hS hinv
    have ht23 := hinv
    have hlt := lxE_lt (b := σ0 29) (n := n) (p := p) (by omega)
    have hle := RS_ele hS
    have J38 : ∀ (w : Int), (pOne (σ0 29) n k p = .inl (lxE (σ0 29) n p, [w]) ∧ (-2147483648 ≤ w ∧ w ≤ 2147483647)) → Ex K G N ρ sh 38 [some (.ref (ρ 28)), some (.int (iZ u)), none] [.int (iZ w), .ref (ρ 28)] σ := by
      intro w hinv
      obtain ⟨hw, hw2⟩ := hinv
      refine x_callVv 41 C dX5_readOne_38 rfl (c_X5_emit (by omega) (by omega) hW) hW.2.1 (by have := hW.1; omega) rfl tb_2_61 tb_2_63 tb_0_13 tb_1_9 tb_2_64 (na := 1) (by decide +kernel) rfl ⟨by omega, by omega⟩ rfl (Nat.le_of_ble_eq_true rfl) rfl (fun s38 hq38 hR38 => ?_)
      have hS1 := RS_emit hS (by omega) hq38
      refine x_aload_n 42 C dX5_readOne_41 rfl rfl rfl ?_
      refine x_callVv 45 C dX5_readOne_42 rfl (c_X5_advance (n := n) (p := lxE (σ0 29) n p) (RS_size hS1) (RS_n hS1) (RS_end hS1) (RS_ele hS1) hW) hW.2.1 (by have := hW.1; omega) rfl tb_1_237 tb_1_239 tb_0_0 tb_1_9 tb_2_0 (na := 0) (by decide +kernel) rfl ⟨by omega, by omega⟩ rfl (Nat.le_of_ble_eq_true rfl) rfl (fun s42 hq42 hR42 => ?_)
      have hS2 := RS_adv hS1 hq42.1 hq42.2
      refine x_iconst 46 C dX5_readOne_45 rfl ?_
      refine x_zret C T dX5_readOne_46 (by omega) ?_
      refine PI_i (by omega) ?_
      first
        | exact hfin
        | (rw [hw]; exact ⟨rfl, hS2⟩)
        | exact PP_deed (c := -15) (L1 := []) (q := pOne (σ0 29) n k') (parse_GQ (σ0 29) n k').1 (RS_ele hS) (RS_n hS) (by simp only [List.append_nil]; omega) (by simp only [List.append_nil]; exact hq118) hq125 (by rw [pOne_neg (by omega)]; rfl)
    refine x_aload_n 17 C dX5_readOne_16 rfl rfl rfl ?_
    refine x_aload_n 18 C dX5_readOne_17 rfl rfl rfl ?_
    refine x_geti (j := 4) 21 C hW.2.1 (by have := hW.1; omega) rfl rfl (by decide) inT5 tb_1_157 rfl dX5_readOne_18 rfl (fun r18 => ?_)
    refine x_iconst 22 C dX5_readOne_21 rfl ?_
    refine x_icmp_ne 32 25 C dX5_readOne_22 rfl rfl (by omega) (by omega) (fun h22 => ?_) (fun h22 => ?_)
    · refine x_iconst 33 C dX5_readOne_32 rfl ?_
      refine x_aload_n 34 C dX5_readOne_33 rfl rfl rfl ?_
      refine x_geti (j := 5) 37 C hW.2.1 (by have := hW.1; omega) rfl rfl (by decide) inT5 tb_1_158 rfl dX5_readOne_34 rfl (fun r34 => ?_)
      refine x_isub 38 C dX5_readOne_37 rfl ?_
      refine J38 _ ⟨?_, ?_⟩
      all_goals first
        | (have h3 : lxT (σ0 29) n p = 3 := by omega
           obtain ⟨j, hj, hvj⟩ := lx3_val h3
           first
             | (rw [hv, pOne_name h3]; done)
             | omega)
        | (have h2 : lxT (σ0 29) n p = 2 := by omega
           have hvr := lx2_val h2
           first
             | (rw [hv, pOne_num h2]; done)
             | omega)
    refine x_aload_n 26 C dX5_readOne_25 rfl rfl rfl ?_
    refine x_geti (j := 5) 29 C hW.2.1 (by have := hW.1; omega) rfl rfl (by decide) inT5 tb_1_158 rfl dX5_readOne_26 rfl (fun r26 => ?_)
    refine x_goto 38 C dX5_readOne_29 rfl ?_
    refine J38 _ ⟨?_, ?_⟩
    all_goals first
      | (have h3 : lxT (σ0 29) n p = 3 := by omega
         obtain ⟨j, hj, hvj⟩ := lx3_val h3
         first
           | (rw [hv, pOne_name h3]; done)
           | omega)
      | (have h2 : lxT (σ0 29) n p = 2 := by omega
         have hvr := lx2_val h2
         first
           | (rw [hv, pOne_num h2]; done)
           | omega)
  refine x_aload_n 1 C dX5_readOne_0 rfl rfl rfl ?_
  refine x_geti (j := 4) 4 C hW.2.1 (by have := hW.1; omega) rfl rfl (by decide) inT5 tb_1_157 rfl dX5_readOne_1 rfl (fun r1 => ?_)
  refine x_iconst 5 C dX5_readOne_4 rfl ?_
  refine x_icmp_eq 16 8 C dX5_readOne_5 rfl rfl (by omega) (by omega) (fun h5 => ?_) (fun h5 => ?_)
  · exact J16 () (by omega)
  refine x_aload_n 9 C dX5_readOne_8 rfl rfl rfl ?_
  refine x_geti (j := 4) 12 C hW.2.1 (by have := hW.1; omega) rfl rfl (by decide) inT5 tb_1_157 rfl dX5_readOne_9 rfl (fun r9 => ?_)
  refine x_iconst 13 C dX5_readOne_12 rfl ?_
  refine x_icmp_ne 47 16 C dX5_readOne_13 rfl rfl (by omega) (by omega) (fun h13 => ?_) (fun h13 => ?_)
  rotate_left
  · exact J16 () (by omega)
  have J65 : ∀ (v : Unit), (lxT (σ0 29) n p = 45 ∨ lxT (σ0 29) n p = 40) → Ex K G N ρ sh 65 [some (.ref (ρ 28)), some (.int (iZ u)), none] [] σ := by
    intro v hinv
    have ht45 := hinv
    have hlt := lxE_lt (b := σ0 29) (n := n) (p := p) (by omega)
    refine x_iload_n 66 C dX5_readOne_65 rfl rfl rfl ?_
    refine x_iconst 67 C dX5_readOne_66 rfl ?_
    refine x_icmp_lt 72 70 C dX5_readOne_67 rfl rfl (by omega) (by omega) (fun h67 => ?_) (fun h67 => ?_)
    rotate_left
    · have hfin : PP σ0 n Lc (pOne (σ0 29) n k p) 0 σ := by rw [pOne_bad (by omega) (by omega) (Or.inl (by omega))]; exact ⟨rfl, RS_RF hS⟩
      refine x_iconst 71 C dX5_readOne_70 rfl ?_
      refine x_zret C T dX5_readOne_71 (by omega) ?_
      refine PI_i (by omega) ?_
      first
        | exact hfin
        | (rw [hw]; exact ⟨rfl, hS2⟩)
        | exact PP_deed (c := -15) (L1 := []) (q := pOne (σ0 29) n k') (parse_GQ (σ0 29) n k').1 (RS_ele hS) (RS_n hS) (by simp only [List.append_nil]; omega) (by simp only [List.append_nil]; exact hq118) hq125 (by rw [pOne_neg (by omega)]; rfl)
    refine x_aload_n 73 C dX5_readOne_72 rfl rfl rfl ?_
    refine x_geti (j := 4) 76 C hW.2.1 (by have := hW.1; omega) rfl rfl (by decide) inT5 tb_1_157 rfl dX5_readOne_73 rfl (fun r73 => ?_)
    refine x_bipush 78 C dX5_readOne_76 rfl rfl ?_
    refine x_icmp_ne 110 81 C dX5_readOne_78 rfl rfl (by omega) (by omega) (fun h78 => ?_) (fun h78 => ?_)
    · refine x_aload_n 111 C dX5_readOne_110 rfl rfl rfl ?_
      refine x_callVv 114 C dX5_readOne_111 rfl (c_X5_advance (n := n) (p := lxE (σ0 29) n p) (RS_size hS) (RS_n hS) (RS_end hS) (RS_ele hS) hW) hW.2.1 (by have := hW.1; omega) rfl tb_1_237 tb_1_239 tb_0_0 tb_1_9 tb_2_0 (na := 0) (by decide +kernel) rfl ⟨by omega, by omega⟩ rfl (Nat.le_of_ble_eq_true rfl) rfl (fun s111 hq111 hR111 => ?_)
      have hS2 := RS_adv hS hq111.1 hq111.2
      obtain ⟨k', rfl⟩ : ∃ k', k = k' + 1 := ⟨k - 1, by omega⟩
      refine x_aload_n 115 C dX5_readOne_114 rfl rfl rfl ?_
      refine x_iload_n 116 C dX5_readOne_115 rfl rfl rfl ?_
      refine x_iconst 117 C dX5_readOne_116 rfl ?_
      refine x_iadd 118 C dX5_readOne_117 rfl ?_
      refine x_callVi 121 C dX5_readOne_118 rfl (hO k' rfl σ0 s111 n _ Lc (u + 1) hS2 (by omega) (by omega)) hW.2.1 (by have := hW.1; omega) rfl tb_2_57 tb_2_59 tb_0_12 tb_1_9 tb_2_60 (na := 1) (by decide +kernel) rfl ⟨by omega, by omega⟩ rfl (Nat.le_of_ble_eq_true rfl) rfl (fun z118 s118 hz118 hq118 hR118 => ?_)
      have h02 := PP_01 hq118
      have h03 := PP_cs hq118
      refine x_istore_n2 122 C dX5_readOne_121 rfl rfl ?_
      refine x_aload_n 123 C dX5_readOne_122 rfl rfl rfl ?_
      refine x_bipush 125 C dX5_readOne_123 rfl rfl ?_
      refine x_callVv 128 C dX5_readOne_125 rfl (c_X5_emit (by omega) (by omega) hW) hW.2.1 (by have := hW.1; omega) rfl tb_2_61 tb_2_63 tb_0_13 tb_1_9 tb_2_64 (na := 1) (by decide +kernel) rfl ⟨by omega, by omega⟩ rfl (Nat.le_of_ble_eq_true rfl) rfl (fun s125 hq125 hR125 => ?_)
      refine x_iload_n 129 C dX5_readOne_128 rfl rfl rfl ?_
      refine x_zret C T dX5_readOne_129 (by omega) ?_
      refine PI_i (by omega) ?_
      first
        | exact hfin
        | (rw [hw]; exact ⟨rfl, hS2⟩)
        | exact PP_deed (c := -15) (L1 := []) (q := pOne (σ0 29) n k') (parse_GQ (σ0 29) n k').1 (RS_ele hS) (RS_n hS) (by simp only [List.append_nil]; omega) (by simp only [List.append_nil]; exact hq118) hq125 (by rw [pOne_neg (by omega)]; rfl)
    refine x_aload_n 82 C dX5_readOne_81 rfl rfl rfl ?_
    refine x_callVv 85 C dX5_readOne_82 rfl (c_X5_advance (n := n) (p := lxE (σ0 29) n p) (RS_size hS) (RS_n hS) (RS_end hS) (RS_ele hS) hW) hW.2.1 (by have := hW.1; omega) rfl tb_1_237 tb_1_239 tb_0_0 tb_1_9 tb_2_0 (na := 0) (by decide +kernel) rfl ⟨by omega, by omega⟩ rfl (Nat.le_of_ble_eq_true rfl) rfl (fun s82 hq82 hR82 => ?_)
    have hS2 := RS_adv hS hq82.1 hq82.2
    obtain ⟨k', rfl⟩ : ∃ k', k = k' + 1 := ⟨k - 1, by omega⟩
    refine x_aload_n 86 C dX5_readOne_85 rfl rfl rfl ?_
    refine x_iload_n 87 C dX5_readOne_86 rfl rfl rfl ?_
    refine x_iconst 88 C dX5_readOne_87 rfl ?_
    refine x_iadd 89 C dX5_readOne_88 rfl ?_
    refine x_callVi 92 C dX5_readOne_89 rfl (hE k' rfl σ0 s82 n _ Lc (u + 1) hS2 (by omega) (by omega)) hW.2.1 (by have := hW.1; omega) rfl tb_2_33 tb_2_35 tb_0_6 tb_1_9 tb_2_36 (na := 1) (by decide +kernel) rfl ⟨by omega, by omega⟩ rfl (Nat.le_of_ble_eq_true rfl) rfl (fun z89 s89 hz89 hq89 hR89 => ?_)
    have h02 := PP_01 hq89
    first
      | refine x_ifb_eq 108 95 C dX5_readOne_92 rfl rfl (fun h92 => ?_) (fun h92 => ?_)
      | refine x_if_eq 108 95 C dX5_readOne_92 rfl rfl (by omega) (fun h92 => ?_) (fun h92 => ?_)
    · have hfin : PP σ0 n Lc (pOne (σ0 29) n (k' + 1) p) 0 s89 := by
        rcases PP_cases hq89 with ⟨p1, L1, e1, e2, e3⟩ | ⟨a, e1, e2, e3⟩
        · omega
        · rw [pOne_par (by omega), show pOr (σ0 29) n k' (lxE (σ0 29) n p) = _ from e1]; exact ⟨rfl, e3⟩
      refine x_iconst 109 C dX5_readOne_108 rfl ?_
      refine x_zret C T dX5_readOne_109 (by omega) ?_
      refine PI_i (by omega) ?_
      first
        | exact hfin
        | (rw [hw]; exact ⟨rfl, hS2⟩)
        | exact PP_deed (c := -15) (L1 := []) (q := pOne (σ0 29) n k') (parse_GQ (σ0 29) n k').1 (RS_ele hS) (RS_n hS) (by simp only [List.append_nil]; omega) (by simp only [List.append_nil]; exact hq118) hq125 (by rw [pOne_neg (by omega)]; rfl)
    obtain ⟨p1, L1, hr1, hS3⟩ : ∃ p1 L1, pOr (σ0 29) n k' (lxE (σ0 29) n p) = .inl (p1, L1) ∧ RS σ0 n p1 (Lc ++ L1) s89 := by
      rcases PP_cases hq89 with ⟨p1, L1, e1, e2, e3⟩ | ⟨a, e1, e2, e3⟩
      · exact ⟨p1, L1, e1, e3⟩
      · omega
    refine x_aload_n 96 C dX5_readOne_95 rfl rfl rfl ?_
    refine x_bipush 98 C dX5_readOne_96 rfl rfl ?_
    refine x_callVi 101 C dX5_readOne_98 rfl (c_X5_skip hS3 (by omega) hW) hW.2.1 (by have := hW.1; omega) rfl tb_2_29 tb_2_31 tb_0_5 tb_1_9 tb_2_32 (na := 1) (by decide +kernel) rfl ⟨by omega, by omega⟩ rfl (Nat.le_of_ble_eq_true rfl) rfl (fun z98 s98 hz98 hq98 hR98 => ?_)
    have h41 : lxT (σ0 29) n p1 = 41 ∨ lxT (σ0 29) n p1 ≠ 41 := by omega
    have hz98 : z98 = 0 ∨ z98 = 1 := by rcases h41 with h | h; exact Or.inr (hq98.1 h).1; exact Or.inl (hq98.2 h).1
    first
      | refine x_ifb_eq 108 104 C dX5_readOne_101 rfl rfl (fun h101 => ?_) (fun h101 => ?_)
      | refine x_if_eq 108 104 C dX5_readOne_101 rfl rfl (by omega) (fun h101 => ?_) (fun h101 => ?_)
    · have hfin : PP σ0 n Lc (pOne (σ0 29) n (k' + 1) p) 0 s98 := by
        rcases h41 with h | h
        · have := (hq98.1 h).1; omega
        · obtain ⟨-, rfl⟩ := hq98.2 h
          rw [pOne_par (by omega), hr1]; dsimp only; rw [if_neg h]; exact ⟨rfl, RS_RF hS3⟩
      refine x_iconst 109 C dX5_readOne_108 rfl ?_
      refine x_zret C T dX5_readOne_109 (by omega) ?_
      refine PI_i (by omega) ?_
      first
        | exact hfin
        | (rw [hw]; exact ⟨rfl, hS2⟩)
        | exact PP_deed (c := -15) (L1 := []) (q := pOne (σ0 29) n k') (parse_GQ (σ0 29) n k').1 (RS_ele hS) (RS_n hS) (by simp only [List.append_nil]; omega) (by simp only [List.append_nil]; exact hq118) hq125 (by rw [pOne_neg (by omega)]; rfl)
    have hfin : PP σ0 n Lc (pOne (σ0 29) n (k' + 1) p) 1 s98 := by
      rcases h41 with h | h
      · rw [pOne_par (by omega), hr1]; dsimp only; rw [if_pos h]; exact ⟨rfl, (hq98.1 h).2⟩
      · have := (hq98.2 h).1; omega
    refine x_iconst 105 C dX5_readOne_104 rfl ?_
    refine x_goto 109 C dX5_readOne_105 rfl ?_
    refine x_zret C T dX5_readOne_109 (by omega) ?_
    refine PI_i (by omega) ?_
    first
      | exact hfin
      | (rw [hw]; exact ⟨rfl, hS2⟩)
      | exact PP_deed (c := -15) (L1 := []) (q := pOne (σ0 29) n k') (parse_GQ (σ0 29) n k').1 (RS_ele hS) (RS_n hS) (by simp only [List.append_nil]; omega) (by simp only [List.append_nil]; exact hq118) hq125 (by rw [pOne_neg (by omega)]; rfl)
  refine x_aload_n 48 C dX5_readOne_47 rfl rfl rfl ?_
  refine x_geti (j := 4) 51 C hW.2.1 (by have := hW.1; omega) rfl rfl (by decide) inT5 tb_1_157 rfl dX5_readOne_48 rfl (fun r48 => ?_)
  refine x_bipush 53 C dX5_readOne_51 rfl rfl ?_
  refine x_icmp_eq 65 56 C dX5_readOne_53 rfl rfl (by omega) (by omega) (fun h53 => ?_) (fun h53 => ?_)
  · exact J65 () (by omega)
  refine x_aload_n 57 C dX5_readOne_56 rfl rfl rfl ?_
  refine x_geti (j := 4) 60 C hW.2.1 (by have := hW.1; omega) rfl rfl (by decide) inT5 tb_1_157 rfl dX5_readOne_57 rfl (fun r57 => ?_)
  refine x_bipush 62 C dX5_readOne_60 rfl rfl ?_
  refine x_icmp_ne 70 65 C dX5_readOne_62 rfl rfl (by omega) (by omega) (fun h62 => ?_) (fun h62 => ?_)
  · have hfin : PP σ0 n Lc (pOne (σ0 29) n k p) 0 σ := by rw [pOne_bad (by omega) (by omega) (Or.inr ⟨by omega, by omega⟩)]; exact ⟨rfl, RS_RF hS⟩
    refine x_iconst 71 C dX5_readOne_70 rfl ?_
    refine x_zret C T dX5_readOne_71 (by omega) ?_
    refine PI_i (by omega) ?_
    first
      | exact hfin
      | (rw [hw]; exact ⟨rfl, hS2⟩)
      | exact PP_deed (c := -15) (L1 := []) (q := pOne (σ0 29) n k') (parse_GQ (σ0 29) n k').1 (RS_ele hS) (RS_n hS) (by simp only [List.append_nil]; omega) (by simp only [List.append_nil]; exact hq118) hq125 (by rw [pOne_neg (by omega)]; rfl)
  exact J65 () (by omega)
