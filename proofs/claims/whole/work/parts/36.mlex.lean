/-! the model's lexer -/
def bM (s : Sig) (F : Nat) : Nat → Int := fun i => s 52 (F + i)
def byM (b : Nat → Int) (n i : Nat) : Int := if i < n then b i else -1
/-- the text that is read: from F on, n bytes -/
def HG (F n : Nat) (s : Sig) : Prop := s 51 25 = F ∧ s 51 26 = n ∧ n ≤ 160 ∧ F + n ≤ 960 ∧ ∀ i, i < n → 0 ≤ s 52 (F + i) ∧ s 52 (F + i) ≤ 255
/-- what reading a token leaves as it is -/
def FMn (σ σ' : Sig) : Prop := (∀ a b, a ≠ 51 → a ≠ 1051 → σ' a b = σ a b) ∧ (∀ b, b ≠ 27 → b ≠ 28 → b ≠ 29 → σ' 51 b = σ 51 b)
theorem FMn_refl (σ : Sig) : FMn σ σ := ⟨fun _ _ _ _ => rfl, fun _ _ _ _ => rfl⟩
theorem FMn_up {σ s : Sig} {i : Nat} {v : Int} (h : FMn σ s) (hi : i = 27 ∨ i = 28 ∨ i = 29) : FMn σ (up s 51 i v) := ⟨fun a b h1 h2 => by rw [up_r h1]; exact h.1 a b h1 h2, fun b h1 h2 h3 => by rw [up_i (by omega)]; exact h.2 b h1 h2 h3⟩
theorem FMn_upl {σ s : Sig} {i : Nat} {v : Int} (h : FMn σ s) : FMn σ (up s 1051 i v) := ⟨fun a b h1 h2 => by rw [up_r h2]; exact h.1 a b h1 h2, fun b h1 h2 h3 => by rw [up_r (by omega)]; exact h.2 b h1 h2 h3⟩
theorem FMn_bM {σ s : Sig} {F : Nat} (h : FMn σ s) : bM s F = bM σ F := funext fun i => h.1 52 _ (by omega) (by omega)
theorem HG_FMn {σ s : Sig} {F n : Nat} (hG : HG F n σ) (h : FMn σ s) : HG F n s := ⟨(h.2 25 (by omega) (by omega) (by omega)).trans hG.1, (h.2 26 (by omega) (by omega) (by omega)).trans hG.2.1, hG.2.2.1, hG.2.2.2.1, fun i hi => by rw [h.1 52 _ (by omega) (by omega)]; exact hG.2.2.2.2 i hi⟩
/-- the model's kinds of tokens -/
def kM (b : Nat → Int) (n p : Nat) : Int := if n ≤ lxA b n p then 0 else if bL (b (lxA b n p)) then 1 else if bD (b (lxA b n p)) then (if runF bD b (n - lxA b n p) (lxA b n p) ≤ 4 then 2 else 4) else if bS (b (lxA b n p)) then 3 else 4
/-- the model looks at the token that is searched from p on -/
def LMs (b : Nat → Int) (n p : Nat) (s : Sig) : Prop := s 51 29 = lxA b n p ∧ s 51 28 = kM b n p ∧ (kM b n p ≠ 4 → s 51 27 = lxE b n p) ∧ (kM b n p = 2 → s 1051 30 = lxV b n p) ∧ (kM b n p = 3 → s 1051 30 = b (lxA b n p))
theorem LM_end {b : Nat → Int} {n p : Nat} {s : Sig} (h0 : n ≤ lxA b n p) (h2 : s 51 29 = lxA b n p) (h3 : s 51 27 = lxA b n p) (h4 : s 51 28 = 0) : LMs b n p s := by
  have e1 : lxE b n p = lxA b n p := by unfold lxE; dsimp only; rw [if_pos h0]
  have e2 : kM b n p = 0 := by unfold kM; rw [if_pos h0]
  exact ⟨h2, by rw [e2]; exact h4, fun _ => by rw [e1]; exact h3, fun h => by omega, fun h => by omega⟩
theorem LM_word {b : Nat → Int} {n p : Nat} {s : Sig} (h0 : lxA b n p < n) (h1 : bL (b (lxA b n p)) = true) (h2 : s 51 29 = lxA b n p) (h3 : s 51 27 = ((lxA b n p + runF bL b (n - lxA b n p) (lxA b n p) : Nat) : Int)) (h4 : s 51 28 = 1) : LMs b n p s := by
  have e1 : lxE b n p = lxA b n p + runF bL b (n - lxA b n p) (lxA b n p) := by unfold lxE; dsimp only; rw [if_neg (by omega), if_pos h1]
  have e2 : kM b n p = 1 := by unfold kM; rw [if_neg (by omega), if_pos h1]
  exact ⟨h2, by rw [e2]; exact h4, fun _ => by rw [e1]; exact h3, fun h => by omega, fun h => by omega⟩
theorem LM_num {b : Nat → Int} {n p : Nat} {s : Sig} (h0 : lxA b n p < n) (h1 : ¬ bL (b (lxA b n p)) = true) (h1d : bD (b (lxA b n p)) = true) (h2 : s 51 29 = lxA b n p) (h3 : s 51 27 = ((lxA b n p + runF bD b (n - lxA b n p) (lxA b n p) : Nat) : Int)) (h4 : s 51 28 = (if runF bD b (n - lxA b n p) (lxA b n p) ≤ 4 then 2 else 4)) (h5 : runF bD b (n - lxA b n p) (lxA b n p) ≤ 4 → s 1051 30 = decV b (lxA b n p) (runF bD b (n - lxA b n p) (lxA b n p))) : LMs b n p s := by
  have e1 : lxE b n p = lxA b n p + runF bD b (n - lxA b n p) (lxA b n p) := by unfold lxE; dsimp only; rw [if_neg (by omega), if_neg h1, if_pos h1d]
  have e2 : kM b n p = (if runF bD b (n - lxA b n p) (lxA b n p) ≤ 4 then 2 else 4) := by unfold kM; rw [if_neg (by omega), if_neg h1, if_pos h1d]
  have e3 : lxV b n p = decV b (lxA b n p) (runF bD b (n - lxA b n p) (lxA b n p)) := by unfold lxV; dsimp only; rw [if_neg h1]
  refine ⟨h2, by rw [e2]; exact h4, fun _ => by rw [e1]; exact h3, fun h => ?_, fun h => ?_⟩
  · rw [e3]
    refine h5 ?_
    rw [e2] at h
    split at h <;> omega
  · rw [e2] at h
    split at h <;> omega
theorem LM_sign {b : Nat → Int} {n p : Nat} {s : Sig} (h0 : lxA b n p < n) (h1 : ¬ bL (b (lxA b n p)) = true) (h1d : ¬ bD (b (lxA b n p)) = true) (h1s : bS (b (lxA b n p)) = true) (h2 : s 51 29 = lxA b n p) (h3 : s 51 27 = (lxA b n p : Int) + 1) (h4 : s 51 28 = 3) (h5 : s 1051 30 = b (lxA b n p)) : LMs b n p s := by
  have e1 : lxE b n p = lxA b n p + 1 := by unfold lxE; dsimp only; rw [if_neg (by omega), if_neg h1, if_neg h1d]
  have e2 : kM b n p = 3 := by unfold kM; rw [if_neg (by omega), if_neg h1, if_neg h1d, if_pos h1s]
  exact ⟨h2, by rw [e2]; exact h4, fun _ => by rw [e1]; omega, fun h => by omega, fun _ => h5⟩
theorem LM_oth {b : Nat → Int} {n p : Nat} {s : Sig} (h0 : lxA b n p < n) (h1 : ¬ bL (b (lxA b n p)) = true) (h1d : ¬ bD (b (lxA b n p)) = true) (h1s : ¬ bS (b (lxA b n p)) = true) (h2 : s 51 29 = lxA b n p) (h4 : s 51 28 = 4) : LMs b n p s := by
  have e2 : kM b n p = 4 := by unfold kM; rw [if_neg (by omega), if_neg h1, if_neg h1d, if_neg h1s]
  exact ⟨h2, by rw [e2]; exact h4, fun h => absurd e2 h, fun h => by omega, fun h => by omega⟩
theorem byM_in {b : Nat → Int} {n i : Nat} (h : i < n → 0 ≤ b i ∧ b i ≤ 255) : -1 ≤ byM b n i ∧ byM b n i ≤ 255 := by
  unfold byM
  split
  · rename_i hi; have := h hi; omega
  · omega
theorem byM_lt {b : Nat → Int} {n i : Nat} (h : i < n) : byM b n i = b i := if_pos h
theorem byM_ge {b : Nat → Int} {n i : Nat} (h : ¬ i < n) : byM b n i = -1 := if_neg h
set_option maxHeartbeats 4000000 in
set_option maxRecDepth 100000 in
theorem c_X12_byteAt {l : Launch} {G : Gt} {ρ : Nat → Nat} {tc : Nat} {cl : Nat → Nat} {σ : Sig} {F n i : Nat} {x : Int} (hG : HG F n σ) (hx : x = i) (hi : i ≤ 1000) : MX l yX12_byteAt cX12_byteAt 2 (some .int) 0 0 G (NN tc) ρ (shp tc cl) [.ref (ρ 51), .int (iZ x)] σ (PE σ (byM (bM σ F) n i)) := by
  refine MX_of [some (.ref (ρ 51)), some (.int (iZ x))] (by decide +kernel) rfl rfl (Nat.le_of_ble_eq_true rfl) ?_
  intro K hKl C T hRng
  subst hKl
  subst hx
  have h1 := hG.1; have h2 := hG.2.1; have h3 := hG.2.2.1; have h4 := hG.2.2.2.1
  refine x_iload_n 1 C dX12_byteAt_0 rfl rfl rfl ?_
  refine x_aload_n 2 C dX12_byteAt_1 rfl rfl rfl ?_
  refine x_geti (j := 26) 5 C rfl (lt79 (by decide)) rfl rfl (by decide) inT12 tb_4_160 rfl dX12_byteAt_2 rfl (fun r2 => ?_)
  refine x_icmp_ge 22 8 C dX12_byteAt_5 rfl rfl (by omega) (by omega) (fun h5 => ?_) (fun h5 => ?_)
  · refine x_iconst 23 C dX12_byteAt_22 rfl ?_
    refine x_iret C T dX12_byteAt_23 ?_
    refine PE_i ?_ (by omega)
    first
      | (rw [byM_ge (by omega)]; done)
      | (rw [byM_lt (by omega), hix]; rfl)
  refine x_aload_n 9 C dX12_byteAt_8 rfl rfl rfl ?_
  refine x_getr (j := 1) 12 C rfl (lt79 (by decide)) rfl rfl (by decide) inT12 tb_4_135 rfl dX12_byteAt_9 rfl ?_
  refine x_aload_n 13 C dX12_byteAt_12 rfl rfl rfl ?_
  refine x_geti (j := 25) 16 C rfl (lt79 (by decide)) rfl rfl (by decide) inT12 tb_4_159 rfl dX12_byteAt_13 rfl (fun r13 => ?_)
  refine x_iload_n 17 C dX12_byteAt_16 rfl rfl rfl ?_
  refine x_iadd 18 C dX12_byteAt_17 rfl ?_
  have hix : (σ 51 25 + (i : Int)).toNat = F + i := by omega
  refine x_iald 19 C rfl (lt79 (by decide)) dX12_byteAt_18 rfl (by omega) (by omega) (fun r18 => ?_)
  refine x_goto 23 C dX12_byteAt_19 rfl ?_
  refine x_iret C T dX12_byteAt_23 ?_
  refine PE_i ?_ (by omega)
  first
    | (rw [byM_ge (by omega)]; done)
    | (rw [byM_lt (by omega), hix]; rfl)

set_option maxHeartbeats 4000000 in
set_option maxRecDepth 100000 in
theorem c_X12_nextToken {l : Launch} {G : Gt} {ρ : Nat → Nat} {tc : Nat} {cl : Nat → Nat} {σ : Sig} {F n q : Nat} (hG : HG F n σ) (hh : σ 51 27 = q) (hq : q ≤ n) : MX l yX12_nextToken cX12_nextToken 3 none 1 25 G (NN tc) ρ (shp tc cl) [.ref (ρ 51)] σ (PV (fun σ' => FMn σ σ' ∧ LMs (bM σ F) n q σ')) := by
  refine MX_of [some (.ref (ρ 51)), none, none] (by decide +kernel) rfl rfl (Nat.le_of_ble_eq_true rfl) ?_
  intro K hKl C T hRng
  subst hKl
  have hn1 := hG.2.2.1
  have L0 : ∀ (m : Nat) (j : Nat) (s1 : Sig), m = n - (q + j) → (q + j ≤ n ∧ FMn σ s1 ∧ s1 51 27 = ((q + j : Nat) : Int) ∧ (∀ i, i < j → bB (bM σ F (q + i)) = true)) → Ex K G (NN tc) ρ (shp tc cl) 0 [some (.ref (ρ 51)), none, none] [] s1 := by
    intro m
    induction m using Nat.strongRecOn with
    | ind m ih =>
      intro j s1 hm hinv
      obtain ⟨hj, hF, h27, hd⟩ := hinv
      have hG1 := HG_FMn hG hF
      have eb := FMn_bM (F := F) hF
      have e26 : s1 51 26 = n := hG1.2.1
      have hbr := byM_in (b := bM σ F) (n := n) (i := q + j) (fun h => hG.2.2.2.2 _ h)
      have J26 : ∀ (u : Unit), (q + j < n ∧ bB (bM σ F (q + j)) = true) → Ex K G (NN tc) ρ (shp tc cl) 26 [some (.ref (ρ 51)), none, none] [] s1 := by
        intro u hinv
        obtain ⟨hjn, hb⟩ := hinv
        refine x_aload_n 27 C dX12_nextToken_26 rfl rfl rfl ?_
        refine x_dup 28 C dX12_nextToken_27 rfl rfl ?_
        refine x_geti (j := 27) 31 C rfl (lt79 (by decide)) rfl rfl (by decide) inT12 tb_4_161 rfl dX12_nextToken_28 rfl (fun r28 => ?_)
        refine x_iconst 32 C dX12_nextToken_31 rfl ?_
        refine x_iadd 33 C dX12_nextToken_32 rfl ?_
        refine x_puti (j := 27) tyX12 36 C rfl (lt79 (by decide)) rfl rfl (by decide) inT12 tyX12_ok nmX12 tb_4_161 rfl rfl rfl dX12_nextToken_33 rfl (by omega) ?_
        refine x_goto 0 C dX12_nextToken_36 rfl ?_
        refine ih _ ?_ (j + 1) _ rfl ⟨by omega, FMn_up hF (by omega), by rw [up_s]; omega, fun i hi => ?_⟩
        · omega
        · by_cases hij : i = j
          · subst hij; exact hb
          · exact hd i (by omega)
      have J39 : ∀ (u : Unit), (runF bB (bM σ F) (n - q) q = j) → Ex K G (NN tc) ρ (shp tc cl) 39 [some (.ref (ρ 51)), none, none] [] s1 := by
        intro u hinv
        have hA : lxA (bM σ F) n q = q + j := by unfold lxA; rw [hinv]
        refine x_aload_n 40 C dX12_nextToken_39 rfl rfl rfl ?_
        refine x_aload_n 41 C dX12_nextToken_40 rfl rfl rfl ?_
        refine x_geti (j := 27) 44 C rfl (lt79 (by decide)) rfl rfl (by decide) inT12 tb_4_161 rfl dX12_nextToken_41 rfl (fun r41 => ?_)
        refine x_puti (j := 29) tyX12 47 C rfl (lt79 (by decide)) rfl rfl (by decide) inT12 tyX12_ok nmX12 tb_4_163 rfl rfl rfl dX12_nextToken_44 rfl (by omega) ?_
        refine x_aload_n 48 C dX12_nextToken_47 rfl rfl rfl ?_
        refine x_aload_n 49 C dX12_nextToken_48 rfl rfl rfl ?_
        refine x_geti (j := 27) 52 C rfl (lt79 (by decide)) rfl rfl (by decide) inT12 tb_4_161 rfl dX12_nextToken_49 rfl (fun r49 => ?_)
        refine x_callVe 55 C dX12_nextToken_52 rfl (c_X12_byteAt (F := F) (n := n) (i := q + j) (HG_FMn hG (FMn_up hF (by omega))) (by rw [up_i (show (27 : Nat) ≠ 29 by decide)]; omega) (by omega)) rfl (lt79 (by decide)) rfl tb_5_137 tb_5_139 tb_0_42 tb_1_20 tb_5_140 (na := 1) (by decide +kernel) rfl ⟨by decide, by decide⟩ rfl (Nat.le_of_ble_eq_true rfl) rfl (fun r52 => ?_)
        rw [FMn_bM (F := F) (FMn_up (i := 29) (v := s1 51 27) hF (by omega))] at *
        obtain ⟨bb, hbb⟩ : ∃ x, byM (bM σ F) n (q + j) = x := ⟨_, rfl⟩
        rw [hbb] at r52 hbr ⊢
        have hF2 : FMn σ (up (up s1 51 29 (s1 51 27)) 51 28 4) := FMn_up (FMn_up hF (by omega)) (by omega)
        obtain ⟨s2, hs2⟩ : ∃ s, up (up s1 51 29 (s1 51 27)) 51 28 4 = s := ⟨_, rfl⟩
        have h227 : s2 51 27 = ((q + j : Nat) : Int) := by rw [← hs2, up_i (by omega), up_i (by omega)]; exact h27
        have h229 : s2 51 29 = ((q + j : Nat) : Int) := by rw [← hs2, up_i (by omega), up_s]; exact h27
        have h226 : s2 51 26 = n := by rw [← hs2, up_i (by omega), up_i (by omega)]; exact e26
        have h228 : s2 51 28 = 4 := by rw [← hs2, up_s]
        rw [hs2] at hF2
        refine x_istore_n1 56 C dX12_nextToken_55 rfl rfl ?_
        refine x_aload_n 57 C dX12_nextToken_56 rfl rfl rfl ?_
        refine x_iconst 58 C dX12_nextToken_57 rfl ?_
        refine x_puti (j := 28) tyX12 61 C rfl (lt79 (by decide)) rfl rfl (by decide) inT12 tyX12_ok nmX12 tb_4_162 rfl rfl rfl dX12_nextToken_58 rfl (by omega) ?_
        rw [hs2]
        refine x_iload_n 62 C dX12_nextToken_61 rfl rfl rfl ?_
        refine x_if_ge 81 65 C dX12_nextToken_62 rfl rfl (by omega) (fun h62 => ?_) (fun h62 => ?_)
        rotate_left
        · have hend : ¬ q + j < n := fun h => by rw [byM_lt h] at hbb; have := hG.2.2.2.2 (q + j) h; unfold bM at hbb; omega
          refine x_aload_n 66 C dX12_nextToken_65 rfl rfl rfl ?_
          refine x_iconst 67 C dX12_nextToken_66 rfl ?_
          refine x_puti (j := 28) tyX12 70 C rfl (lt79 (by decide)) rfl rfl (by decide) inT12 tyX12_ok nmX12 tb_4_162 rfl rfl rfl dX12_nextToken_67 rfl (by omega) ?_
          refine x_aload_n 71 C dX12_nextToken_70 rfl rfl rfl ?_
          refine x_aload_n 72 C dX12_nextToken_71 rfl rfl rfl ?_
          refine x_geti (j := 26) 75 C rfl (lt79 (by decide)) rfl rfl (by decide) inT12 tb_4_160 rfl dX12_nextToken_72 rfl (fun r72 => ?_)
          refine x_puti (j := 29) tyX12 78 C rfl (lt79 (by decide)) rfl rfl (by decide) inT12 tyX12_ok nmX12 tb_4_163 rfl rfl rfl dX12_nextToken_75 rfl (by omega) ?_
          refine x_goto 321 C dX12_nextToken_78 rfl ?_
          refine x_vret C T dX12_nextToken_321 ?_
          refine PV_i ?_
          first
            | exact ⟨FMn_up (FMn_up hF2 (by omega)) (by omega), LM_end (by omega) (by rw [up_s, up_i (by omega), hA]; omega) (by rw [up_i (by omega), up_i (by omega), hA]; exact h227) (by rw [up_i (by omega)]; exact up_s)⟩
            | exact ⟨hF3, LM_word (by omega) (by rw [hA]; exact hbL) (by rw [hA]; exact h329) (by rw [hA, hrun]; exact h327) h328⟩
            | exact ⟨FMn_up hF3 (by omega), LM_num (by omega) (by rw [hA]; exact hbL) (by rw [hA]; exact hbD) (by rw [up_i (by omega), hA]; exact h329) (by rw [up_i (by omega), hA, hrun]; exact h327) (by rw [up_s, hA, hrun]; exact hw) (fun h => by rw [hA, hrun] at h ⊢; rw [up_r (by omega)]; exact hdv h)⟩
            | exact ⟨hF2, LM_oth (by omega) (by rw [hA]; exact hbL) (by rw [hA]; exact hbD) (by rw [hA]; exact hbS) (by rw [hA]; exact h229) h228⟩
            | exact ⟨FMn_up (FMn_upl (FMn_up hF2 (by omega))) (by omega), LM_sign (by omega) (by rw [hA]; exact hbL) (by rw [hA]; exact hbD) (by rw [hA]; exact hbS) (by rw [up_i (by omega), up_r (by omega), up_i (by omega), hA]; exact h229) (by rw [up_s, up_r (by omega), up_i (by omega), hA]; omega) (by rw [up_i (by omega), up_r (by omega)]; exact up_s) (by rw [up_r (by omega), up_s, hA]; exact hbb')⟩
        have hjn : q + j < n := by
          by_cases h : q + j < n
          · exact h
          · rw [byM_ge h] at hbb; omega
        have hbb' : bb = bM σ F (q + j) := by rw [← hbb, byM_lt hjn]
        refine x_iload_n 82 C dX12_nextToken_81 rfl rfl rfl ?_
        refine x_i2l 83 C dX12_nextToken_82 rfl (by omega) ?_
        refine x_ldc2 (z := 97) 86 C tb_5_141 dX12_nextToken_83 rfl ?_
        refine x_ldc2 (z := 122) 89 C tb_5_142 dX12_nextToken_86 rfl ?_
        refine x_callSe 92 C dX12_nextToken_89 rfl (c_X12_in (by omega) (by omega) (by omega)) tb_5_69 tb_5_70 tb_1_20 tb_5_71 (na := 3) (by decide +kernel) rfl ⟨by decide, by decide⟩ rfl (Nat.le_of_ble_eq_true rfl) rfl (fun r89 => ?_)
        first
          | refine x_ifb_eq 134 95 C dX12_nextToken_92 rfl rfl (fun h92 => ?_) (fun h92 => ?_)
          | refine x_if_eq 134 95 C dX12_nextToken_92 rfl rfl (by omega) (fun h92 => ?_) (fun h92 => ?_)
        rotate_left
        · have hbL : bL (bM σ F (q + j)) = true := by unfold bL; rw [← hbb']; simpa using h92
          refine x_aload_n 96 C dX12_nextToken_95 rfl rfl rfl ?_
          refine x_iconst 97 C dX12_nextToken_96 rfl ?_
          refine x_puti (j := 28) tyX12 100 C rfl (lt79 (by decide)) rfl rfl (by decide) inT12 tyX12_ok nmX12 tb_4_162 rfl rfl rfl dX12_nextToken_97 rfl (by omega) ?_
          have L100 : ∀ (m : Nat) (l : Nat) (s3 : Sig), m = n - (q + j + l) → (q + j + l ≤ n ∧ FMn σ s3 ∧ s3 51 27 = ((q + j + l : Nat) : Int) ∧ s3 51 29 = ((q + j : Nat) : Int) ∧ s3 51 28 = 1 ∧ (∀ i, i < l → bL (bM σ F (q + j + i)) = true)) → Ex K G (NN tc) ρ (shp tc cl) 100 [some (.ref (ρ 51)), some (.int (iZ bb)), none] [] s3 := by
            intro m
            induction m using Nat.strongRecOn with
            | ind m ih =>
              intro l s3 hm hinv
              obtain ⟨hl, hF3, h327, h329, h328, hd3⟩ := hinv
              have hG3 := HG_FMn hG hF3
              have eb3 := FMn_bM (F := F) hF3
              have hbr3 := byM_in (b := bM σ F) (n := n) (i := q + j + l) (fun h => hG.2.2.2.2 _ h)
              refine x_aload_n 101 C dX12_nextToken_100 rfl rfl rfl ?_
              refine x_aload_n 102 C dX12_nextToken_101 rfl rfl rfl ?_
              refine x_geti (j := 27) 105 C rfl (lt79 (by decide)) rfl rfl (by decide) inT12 tb_4_161 rfl dX12_nextToken_102 rfl (fun r102 => ?_)
              refine x_callVe 108 C dX12_nextToken_105 rfl (c_X12_byteAt (F := F) (n := n) (i := q + j + l) hG3 (by omega) (by omega)) rfl (lt79 (by decide)) rfl tb_5_137 tb_5_139 tb_0_42 tb_1_20 tb_5_140 (na := 1) (by decide +kernel) rfl ⟨by decide, by decide⟩ rfl (Nat.le_of_ble_eq_true rfl) rfl (fun r105 => ?_)
              rw [eb3] at r105 ⊢
              refine x_i2l 109 C dX12_nextToken_108 rfl (by omega) ?_
              refine x_ldc2 (z := 97) 112 C tb_5_141 dX12_nextToken_109 rfl ?_
              refine x_ldc2 (z := 122) 115 C tb_5_142 dX12_nextToken_112 rfl ?_
              refine x_callSe 118 C dX12_nextToken_115 rfl (c_X12_in (by omega) (by omega) (by omega)) tb_5_69 tb_5_70 tb_1_20 tb_5_71 (na := 3) (by decide +kernel) rfl ⟨by decide, by decide⟩ rfl (Nat.le_of_ble_eq_true rfl) rfl (fun r115 => ?_)
              first
                | refine x_ifb_eq 321 121 C dX12_nextToken_118 rfl rfl (fun h118 => ?_) (fun h118 => ?_)
                | refine x_if_eq 321 121 C dX12_nextToken_118 rfl rfl (by omega) (fun h118 => ?_) (fun h118 => ?_)
              · have hrun : runF bL (bM σ F) (n - (q + j)) (q + j) = l := runF_eq _ _ _ (by omega) hd3 (fun h => by unfold bL; rw [byM_lt (by omega)] at h118; simpa using h118)
                refine x_vret C T dX12_nextToken_321 ?_
                refine PV_i ?_
                first
                  | exact ⟨FMn_up (FMn_up hF2 (by omega)) (by omega), LM_end (by omega) (by rw [up_s, up_i (by omega), hA]; omega) (by rw [up_i (by omega), up_i (by omega), hA]; exact h227) (by rw [up_i (by omega)]; exact up_s)⟩
                  | exact ⟨hF3, LM_word (by omega) (by rw [hA]; exact hbL) (by rw [hA]; exact h329) (by rw [hA, hrun]; exact h327) h328⟩
                  | exact ⟨FMn_up hF3 (by omega), LM_num (by omega) (by rw [hA]; exact hbL) (by rw [hA]; exact hbD) (by rw [up_i (by omega), hA]; exact h329) (by rw [up_i (by omega), hA, hrun]; exact h327) (by rw [up_s, hA, hrun]; exact hw) (fun h => by rw [hA, hrun] at h ⊢; rw [up_r (by omega)]; exact hdv h)⟩
                  | exact ⟨hF2, LM_oth (by omega) (by rw [hA]; exact hbL) (by rw [hA]; exact hbD) (by rw [hA]; exact hbS) (by rw [hA]; exact h229) h228⟩
                  | exact ⟨FMn_up (FMn_upl (FMn_up hF2 (by omega))) (by omega), LM_sign (by omega) (by rw [hA]; exact hbL) (by rw [hA]; exact hbD) (by rw [hA]; exact hbS) (by rw [up_i (by omega), up_r (by omega), up_i (by omega), hA]; exact h229) (by rw [up_s, up_r (by omega), up_i (by omega), hA]; omega) (by rw [up_i (by omega), up_r (by omega)]; exact up_s) (by rw [up_r (by omega), up_s, hA]; exact hbb')⟩
              have hln : q + j + l < n := by
                by_cases h : q + j + l < n
                · exact h
                · rw [byM_ge h] at h118; omega
              have hb3 : bL (bM σ F (q + j + l)) = true := by unfold bL; rw [byM_lt hln] at h118; simpa using h118
              refine x_aload_n 122 C dX12_nextToken_121 rfl rfl rfl ?_
              refine x_dup 123 C dX12_nextToken_122 rfl rfl ?_
              refine x_geti (j := 27) 126 C rfl (lt79 (by decide)) rfl rfl (by decide) inT12 tb_4_161 rfl dX12_nextToken_123 rfl (fun r123 => ?_)
              refine x_iconst 127 C dX12_nextToken_126 rfl ?_
              refine x_iadd 128 C dX12_nextToken_127 rfl ?_
              refine x_puti (j := 27) tyX12 131 C rfl (lt79 (by decide)) rfl rfl (by decide) inT12 tyX12_ok nmX12 tb_4_161 rfl rfl rfl dX12_nextToken_128 rfl (by omega) ?_
              refine x_goto 100 C dX12_nextToken_131 rfl ?_
              refine ih _ ?_ (l + 1) _ rfl ⟨by omega, FMn_up hF3 (by omega), by rw [up_s]; omega, by rw [up_i (by omega)]; exact h329, by rw [up_i (by omega)]; exact h328, fun i hi => ?_⟩
              · omega
              · by_cases hij : i = l
                · subst hij; exact hb3
                · exact hd3 i (by omega)
          exact L100 _ 0 _ rfl ⟨by omega, FMn_up hF2 (by omega), by rw [up_i (by omega)]; exact h227, by rw [up_i (by omega)]; exact h229, up_s, fun i hi => absurd hi (by omega)⟩
        have hbL : ¬ bL (bM σ F (q + j)) = true := by unfold bL; rw [← hbb']; simpa using h92
        refine x_iload_n 135 C dX12_nextToken_134 rfl rfl rfl ?_
        refine x_i2l 136 C dX12_nextToken_135 rfl (by omega) ?_
        refine x_ldc2 (z := 48) 139 C tb_5_143 dX12_nextToken_136 rfl ?_
        refine x_ldc2 (z := 57) 142 C tb_5_144 dX12_nextToken_139 rfl ?_
        refine x_callSe 145 C dX12_nextToken_142 rfl (c_X12_in (by omega) (by omega) (by omega)) tb_5_69 tb_5_70 tb_1_20 tb_5_71 (na := 3) (by decide +kernel) rfl ⟨by decide, by decide⟩ rfl (Nat.le_of_ble_eq_true rfl) rfl (fun r142 => ?_)
        first
          | refine x_ifb_eq 252 148 C dX12_nextToken_145 rfl rfl (fun h145 => ?_) (fun h145 => ?_)
          | refine x_if_eq 252 148 C dX12_nextToken_145 rfl rfl (by omega) (fun h145 => ?_) (fun h145 => ?_)
        rotate_left
        · have hbD : bD (bM σ F (q + j)) = true := by unfold bD; rw [← hbb']; simpa using h145
          refine x_aload_n 149 C dX12_nextToken_148 rfl rfl rfl ?_
          refine x_iconst 150 C dX12_nextToken_149 rfl ?_
          refine x_puti (j := 28) tyX12 153 C rfl (lt79 (by decide)) rfl rfl (by decide) inT12 tyX12_ok nmX12 tb_4_162 rfl rfl rfl dX12_nextToken_150 rfl (by omega) ?_
          refine x_aload_n 154 C dX12_nextToken_153 rfl rfl rfl ?_
          refine x_lconst 155 C dX12_nextToken_154 rfl 0 rfl ?_
          refine x_putl (j := 30) tyX12 158 C rfl (lt79 (by decide)) rfl rfl (by decide) inT12 tyX12_ok nmX12 tb_4_164 rfl rfl rfl dX12_nextToken_155 rfl ?_
          refine x_iconst 159 C dX12_nextToken_158 rfl ?_
          refine x_istore_n2 160 C dX12_nextToken_159 rfl rfl ?_
          have L160 : ∀ (m : Nat) (l : Nat) (y : Int) (s3 : Sig), m = n - (q + j + l) → (q + j + l ≤ n ∧ y = l ∧ FMn σ s3 ∧ s3 51 27 = ((q + j + l : Nat) : Int) ∧ s3 51 29 = ((q + j : Nat) : Int) ∧ s3 51 28 = 2 ∧ (l ≤ 4 → s3 1051 30 = decV (bM σ F) (q + j) l) ∧ (∀ i, i < l → bD (bM σ F (q + j + i)) = true)) → Ex K G (NN tc) ρ (shp tc cl) 160 [some (.ref (ρ 51)), some (.int (iZ bb)), some (.int (iZ y))] [] s3 := by
            intro m
            induction m using Nat.strongRecOn with
            | ind m ih =>
              intro l y s3 hm hinv
              obtain ⟨hl, rfl, hF3, h327, h329, h328, hdv, hd3⟩ := hinv
              have hG3 := HG_FMn hG hF3
              have eb3 := FMn_bM (F := F) hF3
              have hbr3 := byM_in (b := bM σ F) (n := n) (i := q + j + l) (fun h => hG.2.2.2.2 _ h)
              refine x_aload_n 161 C dX12_nextToken_160 rfl rfl rfl ?_
              refine x_aload_n 162 C dX12_nextToken_161 rfl rfl rfl ?_
              refine x_geti (j := 27) 165 C rfl (lt79 (by decide)) rfl rfl (by decide) inT12 tb_4_161 rfl dX12_nextToken_162 rfl (fun r162 => ?_)
              refine x_callVe 168 C dX12_nextToken_165 rfl (c_X12_byteAt (F := F) (n := n) (i := q + j + l) hG3 (by omega) (by omega)) rfl (lt79 (by decide)) rfl tb_5_137 tb_5_139 tb_0_42 tb_1_20 tb_5_140 (na := 1) (by decide +kernel) rfl ⟨by decide, by decide⟩ rfl (Nat.le_of_ble_eq_true rfl) rfl (fun r165 => ?_)
              rw [eb3] at r165 ⊢
              refine x_i2l 169 C dX12_nextToken_168 rfl (by omega) ?_
              refine x_ldc2 (z := 48) 172 C tb_5_143 dX12_nextToken_169 rfl ?_
              refine x_ldc2 (z := 57) 175 C tb_5_144 dX12_nextToken_172 rfl ?_
              refine x_callSe 178 C dX12_nextToken_175 rfl (c_X12_in (by omega) (by omega) (by omega)) tb_5_69 tb_5_70 tb_1_20 tb_5_71 (na := 3) (by decide +kernel) rfl ⟨by decide, by decide⟩ rfl (Nat.le_of_ble_eq_true rfl) rfl (fun r175 => ?_)
              first
                | refine x_ifb_eq 235 181 C dX12_nextToken_178 rfl rfl (fun h178 => ?_) (fun h178 => ?_)
                | refine x_if_eq 235 181 C dX12_nextToken_178 rfl rfl (by omega) (fun h178 => ?_) (fun h178 => ?_)
              · have hrun : runF bD (bM σ F) (n - (q + j)) (q + j) = l := runF_eq _ _ _ (by omega) hd3 (fun h => by unfold bD; rw [byM_lt (by omega)] at h178; simpa using h178)
                have J246 : ∀ (w : Int), (w = (if l ≤ 4 then 2 else 4)) → Ex K G (NN tc) ρ (shp tc cl) 246 [some (.ref (ρ 51)), some (.int (iZ bb)), some (.int (iZ (l : Int)))] [.int (iZ w), .ref (ρ 51)] s3 := by
                  intro w hinv
                  have hw24 : w = 2 ∨ w = 4 := by rw [hinv]; split <;> omega
                  have hw := hinv
                  refine x_puti (j := 28) tyX12 249 C rfl (lt79 (by decide)) rfl rfl (by decide) inT12 tyX12_ok nmX12 tb_4_162 rfl rfl rfl dX12_nextToken_246 rfl (by omega) ?_
                  refine x_goto 321 C dX12_nextToken_249 rfl ?_
                  refine x_vret C T dX12_nextToken_321 ?_
                  refine PV_i ?_
                  first
                    | exact ⟨FMn_up (FMn_up hF2 (by omega)) (by omega), LM_end (by omega) (by rw [up_s, up_i (by omega), hA]; omega) (by rw [up_i (by omega), up_i (by omega), hA]; exact h227) (by rw [up_i (by omega)]; exact up_s)⟩
                    | exact ⟨hF3, LM_word (by omega) (by rw [hA]; exact hbL) (by rw [hA]; exact h329) (by rw [hA, hrun]; exact h327) h328⟩
                    | exact ⟨FMn_up hF3 (by omega), LM_num (by omega) (by rw [hA]; exact hbL) (by rw [hA]; exact hbD) (by rw [up_i (by omega), hA]; exact h329) (by rw [up_i (by omega), hA, hrun]; exact h327) (by rw [up_s, hA, hrun]; exact hw) (fun h => by rw [hA, hrun] at h ⊢; rw [up_r (by omega)]; exact hdv h)⟩
                    | exact ⟨hF2, LM_oth (by omega) (by rw [hA]; exact hbL) (by rw [hA]; exact hbD) (by rw [hA]; exact hbS) (by rw [hA]; exact h229) h228⟩
                    | exact ⟨FMn_up (FMn_upl (FMn_up hF2 (by omega))) (by omega), LM_sign (by omega) (by rw [hA]; exact hbL) (by rw [hA]; exact hbD) (by rw [hA]; exact hbS) (by rw [up_i (by omega), up_r (by omega), up_i (by omega), hA]; exact h229) (by rw [up_s, up_r (by omega), up_i (by omega), hA]; omega) (by rw [up_i (by omega), up_r (by omega)]; exact up_s) (by rw [up_r (by omega), up_s, hA]; exact hbb')⟩
                refine x_aload_n 236 C dX12_nextToken_235 rfl rfl rfl ?_
                refine x_iload_n 237 C dX12_nextToken_236 rfl rfl rfl ?_
                refine x_iconst 238 C dX12_nextToken_237 rfl ?_
                refine x_icmp_le 245 241 C dX12_nextToken_238 rfl rfl (by omega) (by omega) (fun h238 => ?_) (fun h238 => ?_)
                · refine x_iconst 246 C dX12_nextToken_245 rfl ?_
                  exact J246 _ (by first | rw [if_pos (by omega)] | rw [if_neg (by omega)])
                refine x_iconst 242 C dX12_nextToken_241 rfl ?_
                refine x_goto 246 C dX12_nextToken_242 rfl ?_
                exact J246 _ (by first | rw [if_pos (by omega)] | rw [if_neg (by omega)])
              have hln : q + j + l < n := by
                by_cases h : q + j + l < n
                · exact h
                · rw [byM_ge h] at h178; omega
              have hb3 : bD (bM σ F (q + j + l)) = true := by unfold bD; rw [byM_lt hln] at h178; simpa using h178
              have J216 : ∀ (w : Int), (l + 1 ≤ 4 → w = decV (bM σ F) (q + j) (l + 1)) → Ex K G (NN tc) ρ (shp tc cl) 216 [some (.ref (ρ 51)), some (.int (iZ bb)), some (.int (iZ (l : Int)))] [.long (lZ w), .ref (ρ 51)] s3 := by
                intro w hinv
                have hw := hinv
                refine x_putl (j := 30) tyX12 219 C rfl (lt79 (by decide)) rfl rfl (by decide) inT12 tyX12_ok nmX12 tb_4_164 rfl rfl rfl dX12_nextToken_216 rfl ?_
                refine x_iinc_2 222 C dX12_nextToken_219 rfl rfl ?_
                refine x_aload_n 223 C dX12_nextToken_222 rfl rfl rfl ?_
                refine x_dup 224 C dX12_nextToken_223 rfl rfl ?_
                refine x_geti (j := 27) 227 C rfl (lt79 (by decide)) rfl rfl (by decide) inT12 tb_4_161 rfl dX12_nextToken_224 rfl (fun r224 => ?_)
                refine x_iconst 228 C dX12_nextToken_227 rfl ?_
                refine x_iadd 229 C dX12_nextToken_228 rfl ?_
                refine x_puti (j := 27) tyX12 232 C rfl (lt79 (by decide)) rfl rfl (by decide) inT12 tyX12_ok nmX12 tb_4_161 rfl rfl rfl dX12_nextToken_229 rfl (by rw [up_r (show (51 : Nat) ≠ 1051 by decide)]; omega) ?_
                refine x_goto 160 C dX12_nextToken_232 rfl ?_
                refine ih _ ?_ (l + 1) _ _ rfl ⟨by omega, by omega, FMn_up (FMn_upl hF3) (by omega), by rw [up_s, up_r (by omega)]; omega, by rw [up_i (by omega), up_r (by omega)]; exact h329, by rw [up_i (by omega), up_r (by omega)]; exact h328, fun h => ?_, fun i hi => ?_⟩
                · omega
                · rw [up_r (by omega), up_s]; exact hw h
                · by_cases hij : i = l
                  · subst hij; exact hb3
                  · exact hd3 i (by omega)
              refine x_aload_n 182 C dX12_nextToken_181 rfl rfl rfl ?_
              refine x_iload_n 183 C dX12_nextToken_182 rfl rfl rfl ?_
              refine x_iconst 184 C dX12_nextToken_183 rfl ?_
              refine x_icmp_ge 212 187 C dX12_nextToken_184 rfl rfl (by omega) (by omega) (fun h184 => ?_) (fun h184 => ?_)
              · refine x_aload_n 213 C dX12_nextToken_212 rfl rfl rfl ?_
                refine x_getl (j := 30) 216 C rfl (lt79 (by decide)) rfl rfl (by decide) inT12 tb_4_164 rfl dX12_nextToken_213 rfl ?_
                exact J216 _ (fun h => by first | (exfalso; omega) | (rw [hdv (by omega), byM_lt (by omega)]; rfl))
              refine x_ldc2 (z := 10) 190 C tb_5_145 dX12_nextToken_187 rfl ?_
              refine x_aload_n 191 C dX12_nextToken_190 rfl rfl rfl ?_
              refine x_getl (j := 30) 194 C rfl (lt79 (by decide)) rfl rfl (by decide) inT12 tb_4_164 rfl dX12_nextToken_191 rfl ?_
              refine x_lmul 195 C dX12_nextToken_194 rfl ?_
              refine x_aload_n 196 C dX12_nextToken_195 rfl rfl rfl ?_
              refine x_aload_n 197 C dX12_nextToken_196 rfl rfl rfl ?_
              refine x_geti (j := 27) 200 C rfl (lt79 (by decide)) rfl rfl (by decide) inT12 tb_4_161 rfl dX12_nextToken_197 rfl (fun r197 => ?_)
              refine x_callVe 203 C dX12_nextToken_200 rfl (c_X12_byteAt (F := F) (n := n) (i := q + j + l) hG3 (by omega) (by omega)) rfl (lt79 (by decide)) rfl tb_5_137 tb_5_139 tb_0_42 tb_1_20 tb_5_140 (na := 1) (by decide +kernel) rfl ⟨by decide, by decide⟩ rfl (Nat.le_of_ble_eq_true rfl) rfl (fun r200 => ?_)
              rw [eb3] at r200 ⊢
              refine x_i2l 204 C dX12_nextToken_203 rfl (by omega) ?_
              refine x_ladd 205 C dX12_nextToken_204 rfl ?_
              refine x_ldc2 (z := 48) 208 C tb_5_143 dX12_nextToken_205 rfl ?_
              refine x_lsub 209 C dX12_nextToken_208 rfl ?_
              refine x_goto 216 C dX12_nextToken_209 rfl ?_
              exact J216 _ (fun h => by first | (exfalso; omega) | (rw [hdv (by omega), byM_lt (by omega)]; rfl))
          exact L160 _ 0 _ _ rfl ⟨by omega, rfl, FMn_upl (FMn_up hF2 (by omega)), by rw [up_r (by omega), up_i (by omega)]; exact h227, by rw [up_r (by omega), up_i (by omega)]; exact h229, by rw [up_r (by omega)]; exact up_s, fun _ => up_s, fun i hi => absurd hi (by omega)⟩
        have hbD : ¬ bD (bM σ F (q + j)) = true := by unfold bD; rw [← hbb']; simpa using h145
        have J300 : ∀ (u : Unit), (bS (bM σ F (q + j)) = true) → Ex K G (NN tc) ρ (shp tc cl) 300 [some (.ref (ρ 51)), some (.int (iZ bb)), none] [] s2 := by
          intro u hinv
          have hbS := hinv
          refine x_aload_n 301 C dX12_nextToken_300 rfl rfl rfl ?_
          refine x_iconst 302 C dX12_nextToken_301 rfl ?_
          refine x_puti (j := 28) tyX12 305 C rfl (lt79 (by decide)) rfl rfl (by decide) inT12 tyX12_ok nmX12 tb_4_162 rfl rfl rfl dX12_nextToken_302 rfl (by omega) ?_
          refine x_aload_n 306 C dX12_nextToken_305 rfl rfl rfl ?_
          refine x_iload_n 307 C dX12_nextToken_306 rfl rfl rfl ?_
          refine x_i2l 308 C dX12_nextToken_307 rfl (by omega) ?_
          refine x_putl (j := 30) tyX12 311 C rfl (lt79 (by decide)) rfl rfl (by decide) inT12 tyX12_ok nmX12 tb_4_164 rfl rfl rfl dX12_nextToken_308 rfl ?_
          refine x_aload_n 312 C dX12_nextToken_311 rfl rfl rfl ?_
          refine x_dup 313 C dX12_nextToken_312 rfl rfl ?_
          refine x_geti (j := 27) 316 C rfl (lt79 (by decide)) rfl rfl (by decide) inT12 tb_4_161 rfl dX12_nextToken_313 rfl (fun r313 => ?_)
          refine x_iconst 317 C dX12_nextToken_316 rfl ?_
          refine x_iadd 318 C dX12_nextToken_317 rfl ?_
          refine x_puti (j := 27) tyX12 321 C rfl (lt79 (by decide)) rfl rfl (by decide) inT12 tyX12_ok nmX12 tb_4_161 rfl rfl rfl dX12_nextToken_318 rfl (by rw [up_r (show (51 : Nat) ≠ 1051 by decide), up_i (show (27 : Nat) ≠ 28 by decide)]; omega) ?_
          refine x_vret C T dX12_nextToken_321 ?_
          refine PV_i ?_
          first
            | exact ⟨FMn_up (FMn_up hF2 (by omega)) (by omega), LM_end (by omega) (by rw [up_s, up_i (by omega), hA]; omega) (by rw [up_i (by omega), up_i (by omega), hA]; exact h227) (by rw [up_i (by omega)]; exact up_s)⟩
            | exact ⟨hF3, LM_word (by omega) (by rw [hA]; exact hbL) (by rw [hA]; exact h329) (by rw [hA, hrun]; exact h327) h328⟩
            | exact ⟨FMn_up hF3 (by omega), LM_num (by omega) (by rw [hA]; exact hbL) (by rw [hA]; exact hbD) (by rw [up_i (by omega), hA]; exact h329) (by rw [up_i (by omega), hA, hrun]; exact h327) (by rw [up_s, hA, hrun]; exact hw) (fun h => by rw [hA, hrun] at h ⊢; rw [up_r (by omega)]; exact hdv h)⟩
            | exact ⟨hF2, LM_oth (by omega) (by rw [hA]; exact hbL) (by rw [hA]; exact hbD) (by rw [hA]; exact hbS) (by rw [hA]; exact h229) h228⟩
            | exact ⟨FMn_up (FMn_upl (FMn_up hF2 (by omega))) (by omega), LM_sign (by omega) (by rw [hA]; exact hbL) (by rw [hA]; exact hbD) (by rw [hA]; exact hbS) (by rw [up_i (by omega), up_r (by omega), up_i (by omega), hA]; exact h229) (by rw [up_s, up_r (by omega), up_i (by omega), hA]; omega) (by rw [up_i (by omega), up_r (by omega)]; exact up_s) (by rw [up_r (by omega), up_s, hA]; exact hbb')⟩
        refine x_iload_n 253 C dX12_nextToken_252 rfl rfl rfl ?_
        refine x_bipush 255 C dX12_nextToken_253 rfl rfl ?_
        refine x_icmp_eq 300 258 C dX12_nextToken_255 rfl rfl (by omega) (by omega) (fun h255 => ?_) (fun h255 => ?_)
        · exact J300 () (by unfold bS; rw [decide_eq_true_eq, ← hbb']; omega)
        refine x_iload_n 259 C dX12_nextToken_258 rfl rfl rfl ?_
        refine x_bipush 261 C dX12_nextToken_259 rfl rfl ?_
        refine x_icmp_eq 300 264 C dX12_nextToken_261 rfl rfl (by omega) (by omega) (fun h261 => ?_) (fun h261 => ?_)
        · exact J300 () (by unfold bS; rw [decide_eq_true_eq, ← hbb']; omega)
        refine x_iload_n 265 C dX12_nextToken_264 rfl rfl rfl ?_
        refine x_bipush 267 C dX12_nextToken_265 rfl rfl ?_
        refine x_icmp_eq 300 270 C dX12_nextToken_267 rfl rfl (by omega) (by omega) (fun h267 => ?_) (fun h267 => ?_)
        · exact J300 () (by unfold bS; rw [decide_eq_true_eq, ← hbb']; omega)
        refine x_iload_n 271 C dX12_nextToken_270 rfl rfl rfl ?_
        refine x_bipush 273 C dX12_nextToken_271 rfl rfl ?_
        refine x_icmp_eq 300 276 C dX12_nextToken_273 rfl rfl (by omega) (by omega) (fun h273 => ?_) (fun h273 => ?_)
        · exact J300 () (by unfold bS; rw [decide_eq_true_eq, ← hbb']; omega)
        refine x_iload_n 277 C dX12_nextToken_276 rfl rfl rfl ?_
        refine x_bipush 279 C dX12_nextToken_277 rfl rfl ?_
        refine x_icmp_eq 300 282 C dX12_nextToken_279 rfl rfl (by omega) (by omega) (fun h279 => ?_) (fun h279 => ?_)
        · exact J300 () (by unfold bS; rw [decide_eq_true_eq, ← hbb']; omega)
        refine x_iload_n 283 C dX12_nextToken_282 rfl rfl rfl ?_
        refine x_bipush 285 C dX12_nextToken_283 rfl rfl ?_
        refine x_icmp_eq 300 288 C dX12_nextToken_285 rfl rfl (by omega) (by omega) (fun h285 => ?_) (fun h285 => ?_)
        · exact J300 () (by unfold bS; rw [decide_eq_true_eq, ← hbb']; omega)
        refine x_iload_n 289 C dX12_nextToken_288 rfl rfl rfl ?_
        refine x_bipush 291 C dX12_nextToken_289 rfl rfl ?_
        refine x_icmp_eq 300 294 C dX12_nextToken_291 rfl rfl (by omega) (by omega) (fun h291 => ?_) (fun h291 => ?_)
        · exact J300 () (by unfold bS; rw [decide_eq_true_eq, ← hbb']; omega)
        refine x_iload_n 295 C dX12_nextToken_294 rfl rfl rfl ?_
        refine x_bipush 297 C dX12_nextToken_295 rfl rfl ?_
        refine x_icmp_ne 321 300 C dX12_nextToken_297 rfl rfl (by omega) (by omega) (fun h297 => ?_) (fun h297 => ?_)
        · have hbS : ¬ bS (bM σ F (q + j)) = true := by unfold bS; rw [decide_eq_true_eq, ← hbb']; omega
          refine x_vret C T dX12_nextToken_321 ?_
          refine PV_i ?_
          first
            | exact ⟨FMn_up (FMn_up hF2 (by omega)) (by omega), LM_end (by omega) (by rw [up_s, up_i (by omega), hA]; omega) (by rw [up_i (by omega), up_i (by omega), hA]; exact h227) (by rw [up_i (by omega)]; exact up_s)⟩
            | exact ⟨hF3, LM_word (by omega) (by rw [hA]; exact hbL) (by rw [hA]; exact h329) (by rw [hA, hrun]; exact h327) h328⟩
            | exact ⟨FMn_up hF3 (by omega), LM_num (by omega) (by rw [hA]; exact hbL) (by rw [hA]; exact hbD) (by rw [up_i (by omega), hA]; exact h329) (by rw [up_i (by omega), hA, hrun]; exact h327) (by rw [up_s, hA, hrun]; exact hw) (fun h => by rw [hA, hrun] at h ⊢; rw [up_r (by omega)]; exact hdv h)⟩
            | exact ⟨hF2, LM_oth (by omega) (by rw [hA]; exact hbL) (by rw [hA]; exact hbD) (by rw [hA]; exact hbS) (by rw [hA]; exact h229) h228⟩
            | exact ⟨FMn_up (FMn_upl (FMn_up hF2 (by omega))) (by omega), LM_sign (by omega) (by rw [hA]; exact hbL) (by rw [hA]; exact hbD) (by rw [hA]; exact hbS) (by rw [up_i (by omega), up_r (by omega), up_i (by omega), hA]; exact h229) (by rw [up_s, up_r (by omega), up_i (by omega), hA]; omega) (by rw [up_i (by omega), up_r (by omega)]; exact up_s) (by rw [up_r (by omega), up_s, hA]; exact hbb')⟩
        exact J300 () (by unfold bS; rw [decide_eq_true_eq, ← hbb']; omega)
      refine x_aload_n 1 C dX12_nextToken_0 rfl rfl rfl ?_
      refine x_aload_n 2 C dX12_nextToken_1 rfl rfl rfl ?_
      refine x_geti (j := 27) 5 C rfl (lt79 (by decide)) rfl rfl (by decide) inT12 tb_4_161 rfl dX12_nextToken_2 rfl (fun r2 => ?_)
      refine x_callVe 8 C dX12_nextToken_5 rfl (c_X12_byteAt (F := F) (n := n) (i := q + j) hG1 (by omega) (by omega)) rfl (lt79 (by decide)) rfl tb_5_137 tb_5_139 tb_0_42 tb_1_20 tb_5_140 (na := 1) (by decide +kernel) rfl ⟨by decide, by decide⟩ rfl (Nat.le_of_ble_eq_true rfl) rfl (fun r5 => ?_)
      rw [eb] at r5 ⊢
      refine x_bipush 10 C dX12_nextToken_8 rfl rfl ?_
      refine x_icmp_eq 26 13 C dX12_nextToken_10 rfl rfl (by omega) (by omega) (fun h10 => ?_) (fun h10 => ?_)
      · have hjn : q + j < n := by
          by_cases h : q + j < n
          · exact h
          · rw [byM_ge h] at h10; omega
        have hblank : bB (bM σ F (q + j)) = true := by unfold bB; rw [byM_lt hjn] at h10; simp [h10]
        exact J26 () ⟨by omega, hblank⟩
      refine x_aload_n 14 C dX12_nextToken_13 rfl rfl rfl ?_
      refine x_aload_n 15 C dX12_nextToken_14 rfl rfl rfl ?_
      refine x_geti (j := 27) 18 C rfl (lt79 (by decide)) rfl rfl (by decide) inT12 tb_4_161 rfl dX12_nextToken_15 rfl (fun r15 => ?_)
      refine x_callVe 21 C dX12_nextToken_18 rfl (c_X12_byteAt (F := F) (n := n) (i := q + j) hG1 (by omega) (by omega)) rfl (lt79 (by decide)) rfl tb_5_137 tb_5_139 tb_0_42 tb_1_20 tb_5_140 (na := 1) (by decide +kernel) rfl ⟨by decide, by decide⟩ rfl (Nat.le_of_ble_eq_true rfl) rfl (fun r18 => ?_)
      rw [eb] at r18 ⊢
      refine x_bipush 23 C dX12_nextToken_21 rfl rfl ?_
      refine x_icmp_ne 39 26 C dX12_nextToken_23 rfl rfl (by omega) (by omega) (fun h23 => ?_) (fun h23 => ?_)
      · have hrun : runF bB (bM σ F) (n - q) q = j := runF_eq _ _ _ (by omega) hd (fun h => by unfold bB; rw [byM_lt (by omega)] at h10 h23; simp; omega)
        exact J39 () hrun
      have hjn : q + j < n := by
        by_cases h : q + j < n
        · exact h
        · rw [byM_ge h] at h23; omega
      have hblank : bB (bM σ F (q + j)) = true := by unfold bB; rw [byM_lt hjn] at h23; simp [h23]
      exact J26 () ⟨by omega, hblank⟩
  exact L0 _ 0 _ rfl ⟨by omega, FMn_refl σ, by omega, fun i hi => absurd hi (by omega)⟩
