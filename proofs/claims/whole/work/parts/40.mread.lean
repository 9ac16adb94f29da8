/-! the model's read -/
theorem b2_cases (c : Prop) [Decidable c] : (b2 c = 1 ∧ c) ∨ (b2 c = 0 ∧ ¬ c) := by
  by_cases h : c
  · exact Or.inl ⟨b2_t h, h⟩
  · exact Or.inr ⟨b2_f h, h⟩
theorem PPm_good {σ0 s : Sig} {F n D : Nat} {u : Int} {R : Pr} {z : Int} (h : PPm σ0 F n u D R z s) (hb : s 51 32 = 0) : ∃ p1 L1, R = .inl (p1, L1) ∧ Bal (nmM σ0) D L1 z ∧ MSt σ0 F n p1 u s := by
  cases R with
  | inl r => exact ⟨r.1, r.2, rfl, h.1, h.2⟩
  | inr a => have := h.2.1; omega
theorem PPm_bad {σ0 s : Sig} {F n D : Nat} {u : Int} {R : Pr} {z : Int} (h : PPm σ0 F n u D R z s) (hb : s 51 32 ≠ 0) : ∃ a, R = .inr a ∧ MBad σ0 a u s := by
  cases R with
  | inl r => exact absurd (MSt_bad h.2) hb
  | inr a => exact ⟨a, rfl, h⟩
def Q1 (s0 : Sig) (F n : Nat) (z1 w2 : Int) (s : Sig) : Prop := (∃ p1 L1, pPart (bM s0 F) n 4 0 = .inl (p1, L1) ∧ Bal (nmM s0) 31 L1 z1 ∧ PPm s0 F n 0 31 (pPart (bM s0 F) n 5 p1) w2 s) ∨ (∃ a, pPart (bM s0 F) n 4 0 = .inr a ∧ MBad s0 a 0 s)
def Q2 (s0 : Sig) (F n : Nat) (z1 w2 w3 : Int) (s : Sig) : Prop := (∃ p1 L1 p2 L2, pPart (bM s0 F) n 4 0 = .inl (p1, L1) ∧ Bal (nmM s0) 31 L1 z1 ∧ pPart (bM s0 F) n 5 p1 = .inl (p2, L2) ∧ Bal (nmM s0) 31 L2 w2 ∧ PPm s0 F n 0 31 (pPart (bM s0 F) n 6 p2) w3 s) ∨ (∃ a, pText (bM s0 F) n = .inr a ∧ MBad s0 a 0 s)
def Q3 (s0 : Sig) (F n : Nat) (z1 w2 w3 : Int) (s : Sig) : Prop := (∃ L1 L2 L3, pText (bM s0 F) n = .inl (L1, L2, L3) ∧ Bal (nmM s0) 31 L1 z1 ∧ Bal (nmM s0) 31 L2 w2 ∧ Bal (nmM s0) 31 L3 w3 ∧ FM s0 s ∧ s 51 32 = 0) ∨ (∃ a, pText (bM s0 F) n = .inr a ∧ MBad s0 a 0 s)
theorem Q1_good {s0 s : Sig} {F n : Nat} {z1 w2 : Int} (h : Q1 s0 F n z1 w2 s) (hb : s 51 32 = 0) : ∃ p1 L1 p2 L2, pPart (bM s0 F) n 4 0 = .inl (p1, L1) ∧ Bal (nmM s0) 31 L1 z1 ∧ pPart (bM s0 F) n 5 p1 = .inl (p2, L2) ∧ Bal (nmM s0) 31 L2 w2 ∧ MSt s0 F n p2 0 s := by
  rcases h with ⟨p1, L1, h1, h2, h3⟩ | ⟨a, h1, h2⟩
  · obtain ⟨p2, L2, g1, g2, g3⟩ := PPm_good h3 hb
    exact ⟨p1, L1, p2, L2, h1, h2, g1, g2, g3⟩
  · have := h2.2.1; omega
theorem Q1_bad {s0 s : Sig} {F n : Nat} {z1 w2 : Int} (h : Q1 s0 F n z1 w2 s) (hb : s 51 32 ≠ 0) : ∃ a, pText (bM s0 F) n = .inr a ∧ MBad s0 a 0 s := by
  rcases h with ⟨p1, L1, h1, h2, h3⟩ | ⟨a, h1, h2⟩
  · obtain ⟨a, g1, g2⟩ := PPm_bad h3 hb
    exact ⟨a, by unfold pText; rw [h1]; dsimp only; rw [g1], g2⟩
  · exact ⟨a, by unfold pText; rw [h1], h2⟩
theorem Q2_good {s0 s : Sig} {F n : Nat} {z1 w2 w3 : Int} (h : Q2 s0 F n z1 w2 w3 s) (hb : s 51 32 = 0) : ∃ L1 L2 L3 p3, pText (bM s0 F) n = (if lxT (bM s0 F) n p3 = 0 then .inl (L1, L2, L3) else .inr (lxA (bM s0 F) n p3)) ∧ Bal (nmM s0) 31 L1 z1 ∧ Bal (nmM s0) 31 L2 w2 ∧ Bal (nmM s0) 31 L3 w3 ∧ MSt s0 F n p3 0 s := by
  rcases h with ⟨p1, L1, p2, L2, h1, h2, h3, h4, h5⟩ | ⟨a, h1, h2⟩
  · obtain ⟨p3, L3, g1, g2, g3⟩ := PPm_good h5 hb
    exact ⟨L1, L2, L3, p3, by unfold pText; rw [h1]; dsimp only; rw [h3]; dsimp only; rw [g1], h2, h4, g2, g3⟩
  · have := h2.2.1; omega
theorem Q2_bad {s0 s : Sig} {F n : Nat} {z1 w2 w3 : Int} (h : Q2 s0 F n z1 w2 w3 s) (hb : s 51 32 ≠ 0) : ∃ a, pText (bM s0 F) n = .inr a ∧ MBad s0 a 0 s := by
  rcases h with ⟨p1, L1, p2, L2, h1, h2, h3, h4, h5⟩ | h
  · obtain ⟨a, g1, g2⟩ := PPm_bad h5 hb
    exact ⟨a, by unfold pText; rw [h1]; dsimp only; rw [h3]; dsimp only; rw [g1], g2⟩
  · exact h
theorem kM_0 {b : Nat → Int} {n p : Nat} : kM b n p = 0 ↔ lxT b n p = 0 := by
  rcases kM_cases b n p with c | c | c | c | c
  · omega
  · rcases c.2.2.2.2.2.2 with d | d | d <;> omega
  · omega
  · have := bS_in c.2.2.1; omega
  · omega
/-- what reading a text leaves as it is -/
def FRd (σ σ' : Sig) : Prop := (∀ a b, a ≠ 51 → a ≠ 1051 → σ' a b = σ a b) ∧ (∀ b, b < 25 ∨ 33 < b → σ' 51 b = σ 51 b)
def PTx (b : Nat → Int) (n : Nat) (nm : Nat → Int) (w z : Int) (s : Sig) : Prop := match pText b n with
  | .inl (L1, L2, L3) => s 51 32 = 0 ∧ z = (if w = 0 then evL nm L1 else if w = 1 then evL nm L2 else evL nm L3)
  | .inr a => s 51 32 = 1 ∧ s 51 33 = a
set_option maxHeartbeats 4000000 in
set_option maxRecDepth 100000 in
theorem c_X12_read {l : Launch} {G : Gt} {ρ : Nat → Nat} {tc : Nat} {cl : Nat → Nat} {σ : Sig} {t n : Nat} {w : Int} (ht : t < 6) (hw : 0 ≤ w ∧ w ≤ 2) (hn : σ 53 t = n) (hn1 : n ≤ 160) (hby : ∀ i, i < n → 0 ≤ σ 52 (160 * t + i) ∧ σ 52 (160 * t + i) ≤ 255) : MX l yX12_read cX12_read 6 (some .int) 51 1228 G (NN tc) ρ (shp tc cl) [.ref (ρ 51), .int (iZ (t : Int)), .int (iZ w)] σ (PI (fun z σ' => FRd σ σ' ∧ PTx (fun i => σ 52 (160 * t + i)) n (nmM σ) w z σ')) := by
  refine MX_of [some (.ref (ρ 51)), some (.int (iZ (t : Int))), some (.int (iZ w)), none, none, none] (by decide +kernel) rfl rfl (Nat.le_of_ble_eq_true rfl) ?_
  intro K hKl C T hRng
  subst hKl
  refine x_aload_n 1 C dX12_read_0 rfl rfl rfl ?_
  refine x_sipush 4 C dX12_read_1 rfl rfl ?_
  refine x_iload_n 5 C dX12_read_4 rfl rfl rfl ?_
  refine x_imul 6 C dX12_read_5 rfl ?_
  refine x_puti (j := 25) tyX12 9 C rfl (lt79 (by decide)) rfl rfl (by decide) inT12 tyX12_ok nmX12 tb_4_159 rfl rfl rfl dX12_read_6 rfl (by omega) ?_
  refine x_aload_n 10 C dX12_read_9 rfl rfl rfl ?_
  refine x_aload_n 11 C dX12_read_10 rfl rfl rfl ?_
  refine x_getr (j := 2) 14 C rfl (lt79 (by decide)) rfl rfl (by decide) inT12 tb_4_136 rfl dX12_read_11 rfl ?_
  refine x_iload_n 15 C dX12_read_14 rfl rfl rfl ?_
  refine x_iald 16 C rfl (lt79 (by decide)) dX12_read_15 rfl (by omega) (by omega) (fun r15 => ?_)
  rw [show up σ 51 25 (160 * (t : Int)) 53 (t : Int).toNat = σ 53 t by rw [up_r (by omega), Int.toNat_natCast], hn] at r15 ⊢
  refine x_puti (j := 26) tyX12 19 C rfl (lt79 (by decide)) rfl rfl (by decide) inT12 tyX12_ok nmX12 tb_4_160 rfl rfl rfl dX12_read_16 rfl (by omega) ?_
  refine x_aload_n 20 C dX12_read_19 rfl rfl rfl ?_
  refine x_iconst 21 C dX12_read_20 rfl ?_
  refine x_puti (j := 27) tyX12 24 C rfl (lt79 (by decide)) rfl rfl (by decide) inT12 tyX12_ok nmX12 tb_4_161 rfl rfl rfl dX12_read_21 rfl (by omega) ?_
  refine x_aload_n 25 C dX12_read_24 rfl rfl rfl ?_
  refine x_iconst 26 C dX12_read_25 rfl ?_
  refine x_puti (j := 31) tyX12 29 C rfl (lt79 (by decide)) rfl rfl (by decide) inT12 tyX12_ok nmX12 tb_4_165 rfl rfl rfl dX12_read_26 rfl (by omega) ?_
  refine x_aload_n 30 C dX12_read_29 rfl rfl rfl ?_
  refine x_iconst 31 C dX12_read_30 rfl ?_
  refine x_putz (j := 32) tyX12 34 C rfl (lt79 (by decide)) rfl rfl (by decide) inT12 tyX12_ok nmX12 tb_4_166 rfl rfl rfl dX12_read_31 rfl (by omega) ?_
  obtain ⟨s0, hs0⟩ : ∃ s0, up (up (up (up (up σ 51 25 (160 * (t : Int))) 51 26 (n : Int)) 51 27 0) 51 31 0) 51 32 0 = s0 := ⟨_, rfl⟩
  have hF0 : FRd σ s0 := by
    subst hs0
    exact ⟨fun a b h1 h2 => by simp only [up_r h1], fun b h => by rw [up_i (by omega), up_i (by omega), up_i (by omega), up_i (by omega), up_i (by omega)]⟩
  have hG : HG (160 * t) n s0 := by
    refine ⟨?_, ?_, hn1, by omega, fun i hi => ?_⟩
    · subst hs0; rw [up_i (by omega), up_i (by omega), up_i (by omega), up_i (by omega), up_s]; omega
    · subst hs0; rw [up_i (by omega), up_i (by omega), up_i (by omega), up_s]
    · rw [hF0.1 _ _ (by omega) (by omega)]; exact hby i hi
  have h27 : s0 51 27 = ((0 : Nat) : Int) := by subst hs0; rw [up_i (by omega), up_i (by omega), up_s]; rfl
  have h31 : s0 51 31 = 0 := by subst hs0; rw [up_i (by omega), up_s]
  have h32 : s0 51 32 = 0 := by subst hs0; rw [up_s]
  rw [hs0]
  have hb0 : bM s0 (160 * t) = fun i => σ 52 (160 * t + i) := funext fun i => hF0.1 _ _ (by omega) (by omega)
  have hnm0 : nmM s0 = nmM σ := by
    unfold nmM
    rw [hF0.2 19 (by omega), hF0.2 20 (by omega), hF0.2 21 (by omega), hF0.2 22 (by omega), hF0.2 23 (by omega), hF0.2 24 (by omega)]
  refine x_aload_n 35 C dX12_read_34 rfl rfl rfl ?_
  refine x_callVv 38 C dX12_read_35 rfl (c_X12_nextToken (q := 0) hG h27 (by omega)) rfl (lt79 (by decide)) rfl tb_5_133 tb_5_135 tb_0_41 tb_1_20 tb_5_136 (na := 0) (by decide +kernel) rfl ⟨by decide, by decide⟩ rfl (Nat.le_of_ble_eq_true rfl) rfl (fun s35 hq35 hR35 => ?_)
  have hS1 : MSt s0 (160 * t) n 0 0 s35 := ⟨hG, by omega, FMn_FM hq35.1, hq35.2, (hq35.1.2 32 (by omega) (by omega) (by omega)).trans h32, (hq35.1.2 31 (by omega) (by omega) (by omega)).trans h31⟩
  have hT1 := CT_good hS1
  have hTW1 := CT_TW hT1
  refine x_aload_n 39 C dX12_read_38 rfl rfl rfl ?_
  refine x_aload_n 40 C dX12_read_39 rfl rfl rfl ?_
  refine x_bipush 42 C dX12_read_40 rfl rfl ?_
  refine x_bipush 44 C dX12_read_42 rfl rfl ?_
  refine x_bipush 46 C dX12_read_44 rfl rfl ?_
  refine x_bipush 48 C dX12_read_46 rfl rfl ?_
  refine x_iconst 49 C dX12_read_48 rfl ?_
  refine x_iconst 50 C dX12_read_49 rfl ?_
  refine x_iconst 51 C dX12_read_50 rfl ?_
  refine x_iconst 52 C dX12_read_51 rfl ?_
  refine x_callVe 55 C dX12_read_52 rfl (c_X12_isWord (j := 6) hT1 (by omega) (by decide) (by decide)) rfl (lt79 (by decide)) rfl tb_5_146 tb_5_148 tb_0_43 tb_1_20 tb_5_149 (na := 8) (by decide +kernel) rfl ⟨by decide, by decide⟩ rfl (Nat.le_of_ble_eq_true rfl) rfl (fun r52 => ?_)
  refine x_callVi 58 C dX12_read_55 rfl (c_X12_part (key := 4) hS1 (by have := b2_cases (((wj (bM s0 (160 * t)) n 0 : Nat) : Int) = (6 : Nat)); omega) (by omega)) rfl (lt79 (by decide)) rfl tb_5_154 tb_5_156 tb_0_45 tb_1_20 tb_5_157 (na := 1) (by decide +kernel) rfl ⟨by decide, by decide⟩ rfl (Nat.le_of_ble_eq_true rfl) rfl (fun z55 s55 hz55 hq55 hR55 => ?_)
  refine x_istore_n3 59 C dX12_read_58 rfl rfl ?_
  have J91 : ∀ (w2 : Int) (s9 : Sig), (Q1 s0 (160 * t) n z55 w2 s9 ∧ (-2147483648 ≤ w2 ∧ w2 ≤ 2147483647)) → Ex K G (NN tc) ρ (shp tc cl) 91 [some (.ref (ρ 51)), some (.int (iZ (t : Int))), some (.int (iZ w)), some (.int (iZ z55)), none, none] [.int (iZ w2)] s9 := by
    intro w2 s9 hinv
    obtain ⟨hQ1, hw2⟩ := hinv
    refine x_istore_4 93 C dX12_read_91 rfl rfl ?_
    have J125 : ∀ (w3 : Int) (s10 : Sig), (Q2 s0 (160 * t) n z55 w2 w3 s10 ∧ (-2147483648 ≤ w3 ∧ w3 ≤ 2147483647)) → Ex K G (NN tc) ρ (shp tc cl) 125 [some (.ref (ρ 51)), some (.int (iZ (t : Int))), some (.int (iZ w)), some (.int (iZ z55)), some (.int (iZ w2)), none] [.int (iZ w3)] s10 := by
      intro w3 s10 hinv
      obtain ⟨hQ2, hw3⟩ := hinv
      refine x_istore_5 127 C dX12_read_125 rfl rfl ?_
      have J145 : ∀ (s11 : Sig), Q3 s0 (160 * t) n z55 w2 w3 s11 → Ex K G (NN tc) ρ (shp tc cl) 145 [some (.ref (ρ 51)), some (.int (iZ (t : Int))), some (.int (iZ w)), some (.int (iZ z55)), some (.int (iZ w2)), some (.int (iZ w3))] [] s11 := by
        intro s11 hinv
        have hQ3 := hinv
        refine x_iload_n 146 C dX12_read_145 rfl rfl rfl ?_
        refine x_if_ne 153 149 C dX12_read_146 rfl rfl (by omega) (fun h146 => ?_) (fun h146 => ?_)
        rotate_left
        · refine x_iload_n 150 C dX12_read_149 rfl rfl rfl ?_
          refine x_goto 165 C dX12_read_150 rfl ?_
          refine x_iret C T dX12_read_165 ?_
          refine PI_i (by omega) ?_
          rcases hQ3 with ⟨L1, L2, L3, k1, k2, k3, k4, k5, k6⟩ | ⟨a, k1, k2⟩
          · refine ⟨⟨fun a b h1 h2 => (k5.1 a b h1 h2).trans (hF0.1 a b h1 h2), fun b h => (k5.2 b (by omega)).trans (hF0.2 b h)⟩, ?_⟩
            unfold PTx
            rw [hb0] at k1
            rw [k1]
            rw [hnm0] at k2 k3 k4
            refine ⟨k6, ?_⟩
            first
              | (rw [if_pos (by omega), evL_bal k2 (by omega)]; done)
              | (rw [if_neg (by omega), if_pos (by omega), evL_bal k3 (by omega)]; done)
              | (rw [if_neg (by omega), if_neg (by omega), evL_bal k4 (by omega)])
          · refine ⟨⟨fun a b h1 h2 => (k2.1.1 a b h1 h2).trans (hF0.1 a b h1 h2), fun b h => (k2.1.2 b (by omega)).trans (hF0.2 b h)⟩, ?_⟩
            unfold PTx
            rw [hb0] at k1
            rw [k1]
            exact ⟨k2.2.1, k2.2.2.1⟩
        refine x_iload_n 154 C dX12_read_153 rfl rfl rfl ?_
        refine x_iconst 155 C dX12_read_154 rfl ?_
        refine x_icmp_ne 163 158 C dX12_read_155 rfl rfl (by omega) (by omega) (fun h155 => ?_) (fun h155 => ?_)
        · refine x_iload 165 C dX12_read_163 rfl rfl ?_
          refine x_iret C T dX12_read_165 ?_
          refine PI_i (by omega) ?_
          rcases hQ3 with ⟨L1, L2, L3, k1, k2, k3, k4, k5, k6⟩ | ⟨a, k1, k2⟩
          · refine ⟨⟨fun a b h1 h2 => (k5.1 a b h1 h2).trans (hF0.1 a b h1 h2), fun b h => (k5.2 b (by omega)).trans (hF0.2 b h)⟩, ?_⟩
            unfold PTx
            rw [hb0] at k1
            rw [k1]
            rw [hnm0] at k2 k3 k4
            refine ⟨k6, ?_⟩
            first
              | (rw [if_pos (by omega), evL_bal k2 (by omega)]; done)
              | (rw [if_neg (by omega), if_pos (by omega), evL_bal k3 (by omega)]; done)
              | (rw [if_neg (by omega), if_neg (by omega), evL_bal k4 (by omega)])
          · refine ⟨⟨fun a b h1 h2 => (k2.1.1 a b h1 h2).trans (hF0.1 a b h1 h2), fun b h => (k2.1.2 b (by omega)).trans (hF0.2 b h)⟩, ?_⟩
            unfold PTx
            rw [hb0] at k1
            rw [k1]
            exact ⟨k2.2.1, k2.2.2.1⟩
        refine x_iload 160 C dX12_read_158 rfl rfl ?_
        refine x_goto 165 C dX12_read_160 rfl ?_
        refine x_iret C T dX12_read_165 ?_
        refine PI_i (by omega) ?_
        rcases hQ3 with ⟨L1, L2, L3, k1, k2, k3, k4, k5, k6⟩ | ⟨a, k1, k2⟩
        · refine ⟨⟨fun a b h1 h2 => (k5.1 a b h1 h2).trans (hF0.1 a b h1 h2), fun b h => (k5.2 b (by omega)).trans (hF0.2 b h)⟩, ?_⟩
          unfold PTx
          rw [hb0] at k1
          rw [k1]
          rw [hnm0] at k2 k3 k4
          refine ⟨k6, ?_⟩
          first
            | (rw [if_pos (by omega), evL_bal k2 (by omega)]; done)
            | (rw [if_neg (by omega), if_pos (by omega), evL_bal k3 (by omega)]; done)
            | (rw [if_neg (by omega), if_neg (by omega), evL_bal k4 (by omega)])
        · refine ⟨⟨fun a b h1 h2 => (k2.1.1 a b h1 h2).trans (hF0.1 a b h1 h2), fun b h => (k2.1.2 b (by omega)).trans (hF0.2 b h)⟩, ?_⟩
          unfold PTx
          rw [hb0] at k1
          rw [k1]
          exact ⟨k2.2.1, k2.2.2.1⟩
      refine x_aload_n 128 C dX12_read_127 rfl rfl rfl ?_
      refine x_geti (j := 32) 131 C rfl (lt79 (by decide)) rfl rfl (by decide) inT12 tb_4_166 rfl dX12_read_128 rfl (fun r128 => ?_)
      refine x_if_ne 145 134 C dX12_read_131 rfl rfl (by omega) (fun h131 => ?_) (fun h131 => ?_)
      · obtain ⟨a, g1, g2⟩ := Q2_bad hQ2 h131
        have h145 : Q3 s0 (160 * t) n z55 w2 w3 s10 := Or.inr ⟨a, g1, g2⟩
        exact J145 _ h145
      obtain ⟨L1, L2, L3, p3, g1, g2, g3, g4, g5⟩ := Q2_good hQ2 (by omega)
      refine x_aload_n 135 C dX12_read_134 rfl rfl rfl ?_
      refine x_geti (j := 28) 138 C rfl (lt79 (by decide)) rfl rfl (by decide) inT12 tb_4_162 rfl dX12_read_135 rfl (fun r135 => ?_)
      refine x_if_eq 145 141 C dX12_read_138 rfl rfl (by omega) (fun h138 => ?_) (fun h138 => ?_)
      · have h145 : Q3 s0 (160 * t) n z55 w2 w3 s10 := Or.inl ⟨L1, L2, L3, by rw [g1, if_pos (kM_0.mp (by rw [← g5.2.2.2.1.2.1]; exact h138))], g2, g3, g4, g5.2.2.1, MSt_bad g5⟩
        exact J145 _ h145
      refine x_aload_n 142 C dX12_read_141 rfl rfl rfl ?_
      refine x_callVv 145 C dX12_read_142 rfl (c_X12_fail) rfl (lt79 (by decide)) rfl tb_5_158 tb_5_160 tb_0_46 tb_1_20 tb_5_161 (na := 0) (by decide +kernel) rfl ⟨by decide, by decide⟩ rfl (Nat.le_of_ble_eq_true rfl) rfl (fun s142 hq142 hR142 => ?_)
      have h145 : Q3 s0 (160 * t) n z55 w2 w3 s142 := Or.inr ⟨_, by rw [g1, if_neg (fun h => h138 (by rw [g5.2.2.2.1.2.1]; exact kM_0.mpr h))], MSt_fail g5 hq142⟩
      exact J145 _ h145
    refine x_aload_n 94 C dX12_read_93 rfl rfl rfl ?_
    refine x_geti (j := 32) 97 C rfl (lt79 (by decide)) rfl rfl (by decide) inT12 tb_4_166 rfl dX12_read_94 rfl (fun r94 => ?_)
    refine x_if_eq 104 100 C dX12_read_97 rfl rfl (by omega) (fun h97 => ?_) (fun h97 => ?_)
    · obtain ⟨p1, L1, p2, L2, g1, g2, g4, g5, g7⟩ := Q1_good hQ1 h97
      have hT3 := CT_good g7
      have hTW3 := CT_TW hT3
      refine x_aload_n 105 C dX12_read_104 rfl rfl rfl ?_
      refine x_aload_n 106 C dX12_read_105 rfl rfl rfl ?_
      refine x_bipush 108 C dX12_read_106 rfl rfl ?_
      refine x_bipush 110 C dX12_read_108 rfl rfl ?_
      refine x_bipush 112 C dX12_read_110 rfl rfl ?_
      refine x_bipush 114 C dX12_read_112 rfl rfl ?_
      refine x_bipush 116 C dX12_read_114 rfl rfl ?_
      refine x_iconst 117 C dX12_read_116 rfl ?_
      refine x_iconst 118 C dX12_read_117 rfl ?_
      refine x_iconst 119 C dX12_read_118 rfl ?_
      refine x_callVe 122 C dX12_read_119 rfl (c_X12_isWord (j := 8) hT3 (by omega) (by decide) (by decide)) rfl (lt79 (by decide)) rfl tb_5_146 tb_5_148 tb_0_43 tb_1_20 tb_5_149 (na := 8) (by decide +kernel) rfl ⟨by decide, by decide⟩ rfl (Nat.le_of_ble_eq_true rfl) rfl (fun r119 => ?_)
      refine x_callVi 125 C dX12_read_122 rfl (c_X12_part (key := 6) g7 (by have := b2_cases (((wj (bM s0 (160 * t)) n p2 : Nat) : Int) = (8 : Nat)); omega) (by omega)) rfl (lt79 (by decide)) rfl tb_5_154 tb_5_156 tb_0_45 tb_1_20 tb_5_157 (na := 1) (by decide +kernel) rfl ⟨by decide, by decide⟩ rfl (Nat.le_of_ble_eq_true rfl) rfl (fun z122 s122 hz122 hq122 hR122 => ?_)
      first | exact J125 _ _ ⟨hq2, by omega⟩ | exact J125 _ _ ⟨Or.inl ⟨p1, L1, p2, L2, g1, g2, g4, g5, hq122⟩, by omega⟩
    obtain ⟨a, g1, g2⟩ := Q1_bad hQ1 h97
    have hq2 : Q2 s0 (160 * t) n z55 w2 0 s9 := Or.inr ⟨a, g1, g2⟩
    refine x_iconst 101 C dX12_read_100 rfl ?_
    refine x_goto 125 C dX12_read_101 rfl ?_
    first | exact J125 _ _ ⟨hq2, by omega⟩ | exact J125 _ _ ⟨Or.inl ⟨p1, L1, p2, L2, g1, g2, g4, g5, hq122⟩, by omega⟩
  refine x_aload_n 60 C dX12_read_59 rfl rfl rfl ?_
  refine x_geti (j := 32) 63 C rfl (lt79 (by decide)) rfl rfl (by decide) inT12 tb_4_166 rfl dX12_read_60 rfl (fun r60 => ?_)
  refine x_if_eq 70 66 C dX12_read_63 rfl rfl (by omega) (fun h63 => ?_) (fun h63 => ?_)
  · obtain ⟨p1, L1, g1, g2, g3⟩ := PPm_good hq55 h63
    have hT2 := CT_good g3
    have hTW2 := CT_TW hT2
    refine x_aload_n 71 C dX12_read_70 rfl rfl rfl ?_
    refine x_aload_n 72 C dX12_read_71 rfl rfl rfl ?_
    refine x_bipush 74 C dX12_read_72 rfl rfl ?_
    refine x_bipush 76 C dX12_read_74 rfl rfl ?_
    refine x_bipush 78 C dX12_read_76 rfl rfl ?_
    refine x_bipush 80 C dX12_read_78 rfl rfl ?_
    refine x_bipush 82 C dX12_read_80 rfl rfl ?_
    refine x_iconst 83 C dX12_read_82 rfl ?_
    refine x_iconst 84 C dX12_read_83 rfl ?_
    refine x_iconst 85 C dX12_read_84 rfl ?_
    refine x_callVe 88 C dX12_read_85 rfl (c_X12_isWord (j := 7) hT2 (by omega) (by decide) (by decide)) rfl (lt79 (by decide)) rfl tb_5_146 tb_5_148 tb_0_43 tb_1_20 tb_5_149 (na := 8) (by decide +kernel) rfl ⟨by decide, by decide⟩ rfl (Nat.le_of_ble_eq_true rfl) rfl (fun r85 => ?_)
    refine x_callVi 91 C dX12_read_88 rfl (c_X12_part (key := 5) g3 (by have := b2_cases (((wj (bM s0 (160 * t)) n p1 : Nat) : Int) = (7 : Nat)); omega) (by omega)) rfl (lt79 (by decide)) rfl tb_5_154 tb_5_156 tb_0_45 tb_1_20 tb_5_157 (na := 1) (by decide +kernel) rfl ⟨by decide, by decide⟩ rfl (Nat.le_of_ble_eq_true rfl) rfl (fun z88 s88 hz88 hq88 hR88 => ?_)
    first | exact J91 _ _ ⟨hq1, by omega⟩ | exact J91 _ _ ⟨Or.inl ⟨p1, L1, g1, g2, hq88⟩, by omega⟩
  obtain ⟨a, g1, g2⟩ := PPm_bad hq55 h63
  have hq1 : Q1 s0 (160 * t) n z55 0 s55 := Or.inr ⟨a, g1, g2⟩
  refine x_iconst 67 C dX12_read_66 rfl ?_
  refine x_goto 91 C dX12_read_67 rfl ?_
  first | exact J91 _ _ ⟨hq1, by omega⟩ | exact J91 _ _ ⟨Or.inl ⟨p1, L1, g1, g2, hq88⟩, by omega⟩
