/-! only the bytes of the text matter -/
theorem runF_congr {q : Int → Bool} {b b' : Nat → Int} {n : Nat} (h : ∀ i, i < n → b i = b' i) : ∀ f p, p + f ≤ n → runF q b f p = runF q b' f p
  | 0, _, _ => rfl
  | f + 1, p, hp => by simp only [runF]; rw [h p (by omega), runF_congr h f (p + 1) (by omega)]
theorem runF_cn {q : Int → Bool} {b b' : Nat → Int} {n : Nat} (h : ∀ i, i < n → b i = b' i) (p : Nat) : runF q b (n - p) p = runF q b' (n - p) p := by
  by_cases hp : p ≤ n
  · exact runF_congr h _ _ (by omega)
  · rw [show n - p = 0 by omega]; rfl
theorem lxA_cn {b b' : Nat → Int} {n : Nat} (h : ∀ i, i < n → b i = b' i) : lxA b n = lxA b' n := funext fun p => by unfold lxA; rw [runF_cn h p]
theorem lxE_cn {b b' : Nat → Int} {n : Nat} (h : ∀ i, i < n → b i = b' i) : lxE b n = lxE b' n := funext fun p => by
  unfold lxE
  dsimp only
  rw [lxA_cn h]
  by_cases h0 : n ≤ lxA b' n p
  · rw [if_pos h0, if_pos h0]
  · rw [if_neg h0, if_neg h0, h _ (by omega), runF_cn h, runF_cn h]
theorem wIdx_cn {b b' : Nat → Int} {n a l : Nat} (h : ∀ i, i < n → b i = b' i) (hl : a + l ≤ n) : wIdx b a l = wIdx b' a l := by
  unfold wIdx
  have : spel b a l = spel b' a l := funext fun w => by
    rw [Bool.eq_iff_iff, spel_iff, spel_iff]
    constructor
    · rintro ⟨h1, h2⟩; exact ⟨h1, fun j hj => by rw [← h _ (by omega)]; exact h2 j hj⟩
    · rintro ⟨h1, h2⟩; exact ⟨h1, fun j hj => by rw [h _ (by omega)]; exact h2 j hj⟩
  rw [this]
theorem lxT_cn {b b' : Nat → Int} {n : Nat} (h : ∀ i, i < n → b i = b' i) : lxT b n = lxT b' n := funext fun p => by
  unfold lxT
  dsimp only
  rw [lxA_cn h]
  by_cases h0 : n ≤ lxA b' n p
  · rw [if_pos h0, if_pos h0]
  · have hr := runF_le bL b' (n - lxA b' n p) (lxA b' n p)
    rw [if_neg h0, if_neg h0, h _ (by omega), runF_cn h, runF_cn h, wIdx_cn h (by omega)]
theorem lxV_cn {b b' : Nat → Int} {n p : Nat} (h : ∀ i, i < n → b i = b' i) (ht : lxT b' n p = 2 ∨ lxT b' n p = 3) : lxV b n p = lxV b' n p := by
  have h0 : ¬ n ≤ lxA b' n p := by
    intro h0
    unfold lxT at ht
    dsimp only at ht
    rw [if_pos h0] at ht
    omega
  have hr := runF_le bL b' (n - lxA b' n p) (lxA b' n p)
  have hd : ∀ l, lxA b' n p + l ≤ n → decV b (lxA b' n p) l = decV b' (lxA b' n p) l := by
    intro l
    induction l with
    | zero => intro _; rfl
    | succ l ih => intro hl; simp only [decV]; rw [ih (by omega), h _ (by omega)]
  have hr2 := runF_le bD b' (n - lxA b' n p) (lxA b' n p)
  unfold lxV
  dsimp only
  rw [lxA_cn h, h _ (by omega), runF_cn h, runF_cn h, wIdx_cn h (by omega), hd _ (by omega)]
theorem pChain_cn {b b' : Nat → Int} {n : Nat} (h : ∀ i, i < n → b i = b' i) (op : Int → Option Int) (q : Nat → Pr) : ∀ f r, pChain b n op q f r = pChain b' n op q f r
  | 0, r => rfl
  | f + 1, r => by
    simp only [pChain]
    rw [lxT_cn h, lxE_cn h]
    cases op (lxT b' n r.1) with
    | none => rfl
    | some c =>
      dsimp only
      cases q (lxE b' n r.1) with
      | inr a => rfl
      | inl x => exact pChain_cn h op q f _
theorem pSeq_cn {b b' : Nat → Int} {n : Nat} (h : ∀ i, i < n → b i = b' i) (op : Int → Option Int) (q : Nat → Pr) : pSeq b n op q = pSeq b' n op q := funext fun p => by
  unfold pSeq
  cases q p with
  | inr a => rfl
  | inl x => exact pChain_cn h op q _ _
theorem pCmp_cn {b b' : Nat → Int} {n : Nat} (h : ∀ i, i < n → b i = b' i) (q : Nat → Pr) : pCmp b n q = pCmp b' n q := funext fun p => by
  unfold pCmp
  rw [lxT_cn h, lxE_cn h]
theorem pAll_cn {b b' : Nat → Int} {n : Nat} (h : ∀ i, i < n → b i = b' i) : ∀ k, pOne b n k = pOne b' n k ∧ pNot b n k = pNot b' n k ∧ pOr b n k = pOr b' n k := by
  have step : ∀ k, (∀ k', k' + 1 = k → pOne b n k' = pOne b' n k' ∧ pNot b n k' = pNot b' n k' ∧ pOr b n k' = pOr b' n k') → pOne b n k = pOne b' n k ∧ pNot b n k = pNot b' n k ∧ pOr b n k = pOr b' n k := by
    intro k ih
    have eT := lxT_cn h
    have eE := lxE_cn h
    have eA := lxA_cn h
    have h1 : pOne b n k = pOne b' n k := funext fun p => by
      by_cases t2 : lxT b' n p = 2
      · rw [pOne_num t2, pOne_num (by rw [eT]; exact t2), eE, lxV_cn h (Or.inl t2)]
      by_cases t3 : lxT b' n p = 3
      · rw [pOne_name t3, pOne_name (by rw [eT]; exact t3), eE, lxV_cn h (Or.inr t3)]
      cases k with
      | zero => rw [pOne_bad t2 t3 (Or.inl rfl), pOne_bad (by rw [eT]; exact t2) (by rw [eT]; exact t3) (Or.inl rfl), eA]
      | succ k =>
        obtain ⟨i1, i2, i3⟩ := ih k rfl
        by_cases t45 : lxT b' n p = 45
        · rw [pOne_neg t45, pOne_neg (by rw [eT]; exact t45), eE, i1]
        by_cases t40 : lxT b' n p = 40
        · rw [pOne_par t40, pOne_par (by rw [eT]; exact t40), eE, i3, eT, eA]
        · rw [pOne_bad t2 t3 (Or.inr ⟨t45, t40⟩), pOne_bad (by rw [eT]; exact t2) (by rw [eT]; exact t3) (Or.inr ⟨by rw [eT]; exact t45, by rw [eT]; exact t40⟩), eA]
    have h2 : pNot b n k = pNot b' n k := funext fun p => by
      by_cases t9 : lxT b' n p = 9
      · cases k with
        | zero => rw [pNot_0 t9, pNot_0 (by rw [eT]; exact t9), eA]
        | succ k =>
          obtain ⟨i1, i2, i3⟩ := ih k rfl
          rw [pNot_s t9, pNot_s (by rw [eT]; exact t9), eE, i2]
      · rw [pNot_n t9, pNot_n (by rw [eT]; exact t9), pCmp_cn h]
        unfold pSum pTerm
        rw [pSeq_cn h, pSeq_cn h, h1]
    refine ⟨h1, h2, ?_⟩
    rw [pOr_eq, pOr_eq, pSeq_cn h]
    unfold pAnd
    rw [pSeq_cn h, h2]
  intro k
  induction k with
  | zero => exact step 0 (fun k' h => absurd h (by omega))
  | succ k ih => exact step (k + 1) (fun k' h => by cases h; exact ih)
theorem pText_cn {b b' : Nat → Int} {n : Nat} (h : ∀ i, i < n → b i = b' i) : pText b n = pText b' n := by
  have hp : ∀ key, pPart b n key = pPart b' n key := fun key => funext fun p => by
    unfold pPart
    rw [lxT_cn h, lxE_cn h, lxA_cn h, (pAll_cn h 5).2.2]
  unfold pText
  rw [hp, hp, hp, lxT_cn h, lxA_cn h]
/-! the model's text, and what it keeps of reading -/
def TXm (σ : Sig) (n : Nat) (z : Int) (σ' : Sig) : Prop := (σ 51 3 = 6 → z = -4 ∧ σ' = σ) ∧ (σ 51 3 ≠ 6 → (∀ a b, a ≠ 51 → a ≠ 1051 → a ≠ 52 → a ≠ 53 → σ' a b = σ a b) ∧ (∀ b, b ≠ 3 → b ≠ 6 → (b < 25 ∨ 33 < b) → σ' 51 b = σ 51 b) ∧ σ' 51 6 = 0 ∧ (∀ b, σ' 52 b = if 160 * (σ 51 3).toNat ≤ b ∧ b < 160 * (σ 51 3).toNat + n then σ 54 (b - 160 * (σ 51 3).toNat) else σ 52 b) ∧ (∀ b, σ' 53 b = if b = (σ 51 3).toNat then (n : Int) else σ 53 b) ∧ (match pText (σ 54) n with
    | .inl _ => z = σ 51 3 ∧ σ' 51 3 = σ 51 3 + 1
    | .inr a => z = wrap (-100 - (a : Int)) ∧ σ' 51 3 = σ 51 3))
set_option maxHeartbeats 4000000 in
set_option maxRecDepth 100000 in
theorem c_X12_text {l : Launch} {G : Gt} {ρ : Nat → Nat} {tc : Nat} {cl : Nat → Nat} {σ : Sig} {n : Nat} (h3 : 0 ≤ σ 51 3 ∧ σ 51 3 ≤ 6) (hs6 : σ 51 6 = n) (hn : n ≤ 160) (hby : ∀ i, i < n → 0 ≤ σ 54 i ∧ σ 54 i ≤ 255) : MX l yX12_text cX12_text 2 (some .int) 52 1253 G (NN tc) ρ (shp tc cl) [.ref (ρ 51)] σ (PI (fun z σ' => TXm σ n z σ')) := by
  refine MX_of [some (.ref (ρ 51)), none] (by decide +kernel) rfl rfl (Nat.le_of_ble_eq_true rfl) ?_
  intro K hKl C T hRng
  subst hKl
  obtain ⟨t, ht⟩ : ∃ t : Nat, σ 51 3 = t := ⟨(σ 51 3).toNat, by omega⟩
  have htn : (σ 51 3).toNat = t := by omega
  refine x_aload_n 1 C dX12_text_0 rfl rfl rfl ?_
  refine x_geti (j := 3) 4 C rfl (lt79 (by decide)) rfl rfl (by decide) inT12 tb_4_137 rfl dX12_text_1 rfl (fun r1 => ?_)
  refine x_bipush 6 C dX12_text_4 rfl rfl ?_
  refine x_icmp_ne 12 9 C dX12_text_6 rfl rfl (by omega) (by omega) (fun h6 => ?_) (fun h6 => ?_)
  · refine x_iconst 13 C dX12_text_12 rfl ?_
    refine x_istore_n1 14 C dX12_text_13 rfl rfl ?_
    have L14 : ∀ (m : Nat) (i : Nat) (y : Int) (s1 : Sig), m = n - i → (i ≤ n ∧ y = i ∧ (∀ a b, a ≠ 52 → s1 a b = σ a b) ∧ (∀ b, s1 52 b = if 160 * t ≤ b ∧ b < 160 * t + i then σ 54 (b - 160 * t) else σ 52 b)) → Ex K G (NN tc) ρ (shp tc cl) 14 [some (.ref (ρ 51)), some (.int (iZ y))] [] s1 := by
      intro m
      induction m using Nat.strongRecOn with
      | ind m ih =>
        intro i y s1 hm hinv
        obtain ⟨hi, rfl, hf, hd⟩ := hinv
        have e3 : s1 51 3 = t := (hf 51 3 (by omega)).trans ht
        have e6 : s1 51 6 = n := (hf 51 6 (by omega)).trans hs6
        refine x_iload_n 15 C dX12_text_14 rfl rfl rfl ?_
        refine x_aload_n 16 C dX12_text_15 rfl rfl rfl ?_
        refine x_geti (j := 6) 19 C rfl (lt79 (by decide)) rfl rfl (by decide) inT12 tb_4_140 rfl dX12_text_16 rfl (fun r16 => ?_)
        refine x_icmp_ge 49 22 C dX12_text_19 rfl rfl (by omega) (by omega) (fun h19 => ?_) (fun h19 => ?_)
        · refine x_aload_n 50 C dX12_text_49 rfl rfl rfl ?_
          refine x_getr (j := 2) 53 C rfl (lt79 (by decide)) rfl rfl (by decide) inT12 tb_4_136 rfl dX12_text_50 rfl ?_
          refine x_aload_n 54 C dX12_text_53 rfl rfl rfl ?_
          refine x_geti (j := 3) 57 C rfl (lt79 (by decide)) rfl rfl (by decide) inT12 tb_4_137 rfl dX12_text_54 rfl (fun r54 => ?_)
          refine x_aload_n 58 C dX12_text_57 rfl rfl rfl ?_
          refine x_geti (j := 6) 61 C rfl (lt79 (by decide)) rfl rfl (by decide) inT12 tb_4_140 rfl dX12_text_58 rfl (fun r58 => ?_)
          refine x_iast 62 C rfl (lt79 (by decide)) dX12_text_61 rfl (by omega) (by omega) (by omega) ?_
          obtain ⟨s2, hs2⟩ : ∃ s, up (up s1 53 (s1 51 3).toNat (s1 51 6)) 51 6 0 = s := ⟨_, rfl⟩
          have f2 : ∀ a b, a ≠ 51 → a ≠ 52 → a ≠ 53 → s2 a b = σ a b := fun a b h1 h2 h3 => by rw [← hs2, up_r h1, up_r h3]; exact hf a b h2
          have f3 : ∀ b, b ≠ 6 → s2 51 b = σ 51 b := fun b h1 => by rw [← hs2, up_i h1, up_r (by omega)]; exact hf 51 b (by omega)
          have f4 : s2 51 6 = 0 := by rw [← hs2, up_s]
          have f5 : ∀ b, s2 52 b = if 160 * t ≤ b ∧ b < 160 * t + n then σ 54 (b - 160 * t) else σ 52 b := fun b => by
            rw [← hs2, up_r (by omega), up_r (by omega), hd, show i = n by omega]
          have f6 : ∀ b, s2 53 b = if b = t then (n : Int) else σ 53 b := fun b => by
            rw [← hs2, up_r (by omega), e3, e6, Int.toNat_natCast]
            by_cases hb : b = t
            · subst hb; rw [up_s, if_pos rfl]
            · rw [up_i hb, if_neg hb]; exact hf 53 b (by omega)
          have f7 : s2 51 3 = t := (f3 3 (by omega)).trans ht
          refine x_aload_n 63 C dX12_text_62 rfl rfl rfl ?_
          refine x_iconst 64 C dX12_text_63 rfl ?_
          refine x_puti (j := 6) tyX12 67 C rfl (lt79 (by decide)) rfl rfl (by decide) inT12 tyX12_ok nmX12 tb_4_140 rfl rfl rfl dX12_text_64 rfl (by omega) ?_
          rw [hs2]
          refine x_aload_n 68 C dX12_text_67 rfl rfl rfl ?_
          refine x_aload_n 69 C dX12_text_68 rfl rfl rfl ?_
          refine x_geti (j := 3) 72 C rfl (lt79 (by decide)) rfl rfl (by decide) inT12 tb_4_137 rfl dX12_text_69 rfl (fun r69 => ?_)
          refine x_iconst 73 C dX12_text_72 rfl ?_
          rw [f7]
          refine x_callVi 76 C dX12_text_73 rfl (c_X12_read (t := t) (n := n) (w := 0) (by omega) (by omega) (by rw [f6, if_pos rfl]) hn (fun i hi => by rw [f5, if_pos (by omega), show 160 * t + i - 160 * t = i by omega]; exact hby i hi)) rfl (lt79 (by decide)) rfl tb_5_129 tb_5_131 tb_0_40 tb_1_20 tb_5_132 (na := 2) (by decide +kernel) rfl ⟨by decide, by decide⟩ rfl (Nat.le_of_ble_eq_true rfl) rfl (fun z73 s73 hz73 hq73 hR73 => ?_)
          obtain ⟨hD, hP⟩ := hq73
          have hbt : pText (fun i => s2 52 (160 * t + i)) n = pText (σ 54) n := pText_cn (fun i hi => by rw [f5, if_pos (by omega), show 160 * t + i - 160 * t = i by omega])
          unfold PTx at hP
          rw [hbt] at hP
          have g3 : s73 51 3 = t := (hD.2 3 (by omega)).trans f7
          have hR : ∀ (σ' : Sig) (z : Int), (∀ a b, a ≠ 51 → σ' a b = s73 a b) → (∀ b, b ≠ 3 → σ' 51 b = s73 51 b) → (match pText (σ 54) n with
              | .inl _ => z = σ 51 3 ∧ σ' 51 3 = σ 51 3 + 1
              | .inr a => z = wrap (-100 - (a : Int)) ∧ σ' 51 3 = σ 51 3) → TXm σ n z σ' := by
            intro σ' z k1 k2 k3
            refine ⟨fun h => by omega, fun _ => ⟨fun a b h1 h2 h3 h4 => ?_, fun b h1 h2 h3 => ?_, ?_, fun b => ?_, fun b => ?_, k3⟩⟩
            · rw [k1 a b h1, hD.1 a b h1 h2]; exact f2 a b h1 h3 h4
            · rw [k2 b h1, hD.2 b h3]; exact f3 b h2
            · rw [k2 6 (by omega), hD.2 6 (by omega)]; exact f4
            · rw [k1 52 b (by omega), hD.1 52 b (by omega) (by omega), htn]; exact f5 b
            · rw [k1 53 b (by omega), hD.1 53 b (by omega) (by omega), htn]; exact f6 b
          refine x_istore_n1 77 C dX12_text_76 rfl rfl ?_
          refine x_aload_n 78 C dX12_text_77 rfl rfl rfl ?_
          refine x_geti (j := 32) 81 C rfl (lt79 (by decide)) rfl rfl (by decide) inT12 tb_4_166 rfl dX12_text_78 rfl (fun r78 => ?_)
          refine x_if_eq 92 84 C dX12_text_81 rfl rfl (by omega) (fun h81 => ?_) (fun h81 => ?_)
          · obtain ⟨x, hpt⟩ : ∃ x, pText (σ 54) n = .inl x := by
              cases hpt : pText (σ 54) n with
              | inl x => exact ⟨x, rfl⟩
              | inr a => rw [hpt] at hP; have := hP.1; omega
            have hfin : TXm σ n (t : Int) (up s73 51 3 (s73 51 3 + 1)) := hR _ _ (fun a b h => up_r h) (fun b h => up_i h) (by rw [hpt, up_s]; exact ⟨by omega, by omega⟩)
            refine x_aload_n 93 C dX12_text_92 rfl rfl rfl ?_
            refine x_dup 94 C dX12_text_93 rfl rfl ?_
            refine x_geti (j := 3) 97 C rfl (lt79 (by decide)) rfl rfl (by decide) inT12 tb_4_137 rfl dX12_text_94 rfl (fun r94 => ?_)
            refine x_iconst 98 C dX12_text_97 rfl ?_
            refine x_iadd 99 C dX12_text_98 rfl ?_
            refine x_puti (j := 3) tyX12 102 C rfl (lt79 (by decide)) rfl rfl (by decide) inT12 tyX12_ok nmX12 tb_4_137 rfl rfl rfl dX12_text_99 rfl (by omega) ?_
            refine x_aload_n 103 C dX12_text_102 rfl rfl rfl ?_
            refine x_geti (j := 3) 106 C rfl (lt79 (by decide)) rfl rfl (by decide) inT12 tb_4_137 rfl dX12_text_103 rfl (fun r103 => ?_)
            refine x_iconst 107 C dX12_text_106 rfl ?_
            refine x_isub 108 C dX12_text_107 rfl ?_
            refine x_iret C T dX12_text_108 ?_
            first
              | (refine PI_i (by omega) ?_
                 exact ⟨fun _ => ⟨rfl, rfl⟩, fun h => absurd (by omega) h⟩)
              | exact PI_i (by omega) hfin
              | exact PI_i (wrap_in _) hfin
              | (have e : up s73 51 3 (s73 51 3 + 1) 51 3 - 1 = t := by rw [up_s]; omega
                 rw [e]
                 exact PI_i (by omega) hfin)
          obtain ⟨a, ha, hpt⟩ : ∃ a : Nat, s73 51 33 = a ∧ pText (σ 54) n = .inr a := by
            cases hpt : pText (σ 54) n with
            | inl x => rw [hpt] at hP; exact absurd hP.1 h81
            | inr a => rw [hpt] at hP; exact ⟨a, hP.2, rfl⟩
          have hfin : TXm σ n (wrap (-100 - s73 51 33)) s73 := hR _ _ (fun _ _ _ => rfl) (fun _ _ => rfl) (by rw [hpt, ha]; exact ⟨rfl, by omega⟩)
          refine x_bipush 86 C dX12_text_84 rfl rfl ?_
          refine x_aload_n 87 C dX12_text_86 rfl rfl rfl ?_
          refine x_geti (j := 33) 90 C rfl (lt79 (by decide)) rfl rfl (by decide) inT12 tb_4_167 rfl dX12_text_87 rfl (fun r87 => ?_)
          refine x_isub 91 C dX12_text_90 rfl ?_
          refine x_wrap 91 C rfl ?_
          refine x_iret C T dX12_text_91 ?_
          first
            | (refine PI_i (by omega) ?_
               exact ⟨fun _ => ⟨rfl, rfl⟩, fun h => absurd (by omega) h⟩)
            | exact PI_i (by omega) hfin
            | exact PI_i (wrap_in _) hfin
            | (have e : up s73 51 3 (s73 51 3 + 1) 51 3 - 1 = t := by rw [up_s]; omega
               rw [e]
               exact PI_i (by omega) hfin)
        refine x_aload_n 23 C dX12_text_22 rfl rfl rfl ?_
        refine x_getr (j := 1) 26 C rfl (lt79 (by decide)) rfl rfl (by decide) inT12 tb_4_135 rfl dX12_text_23 rfl ?_
        refine x_sipush 29 C dX12_text_26 rfl rfl ?_
        refine x_aload_n 30 C dX12_text_29 rfl rfl rfl ?_
        refine x_geti (j := 3) 33 C rfl (lt79 (by decide)) rfl rfl (by decide) inT12 tb_4_137 rfl dX12_text_30 rfl (fun r30 => ?_)
        refine x_imul 34 C dX12_text_33 rfl ?_
        refine x_iload_n 35 C dX12_text_34 rfl rfl rfl ?_
        refine x_iadd 36 C dX12_text_35 rfl ?_
        refine x_aload_n 37 C dX12_text_36 rfl rfl rfl ?_
        refine x_getr (j := 5) 40 C rfl (lt79 (by decide)) rfl rfl (by decide) inT12 tb_4_139 rfl dX12_text_37 rfl ?_
        refine x_iload_n 41 C dX12_text_40 rfl rfl rfl ?_
        refine x_iald 42 C rfl (lt79 (by decide)) dX12_text_41 rfl (by omega) (by omega) (fun r41 => ?_)
        refine x_iast 43 C rfl (lt79 (by decide)) dX12_text_42 rfl (by omega) (by omega) (by omega) ?_
        refine x_iinc_1 46 C dX12_text_43 rfl rfl ?_
        refine x_goto 14 C dX12_text_46 rfl ?_
        refine ih _ ?_ (i + 1) _ _ rfl ⟨by omega, by omega, fun a b ha => by rw [up_r ha]; exact hf a b ha, fun b => ?_⟩
        · omega
        · have hix : (160 * s1 51 3 + (i : Int)).toNat = 160 * t + i := by omega
          rw [hix, Int.toNat_natCast]
          by_cases hb : b = 160 * t + i
          · subst hb
            rw [up_s, hf 54 i (by omega), if_pos (by omega), show 160 * t + i - 160 * t = i by omega]
          · rw [up_i hb, hd]
            by_cases hc : 160 * t ≤ b ∧ b < 160 * t + i
            · rw [if_pos hc, if_pos (by omega)]
            · rw [if_neg hc, if_neg (by omega)]
    exact L14 _ 0 _ _ rfl ⟨by omega, rfl, fun _ _ _ => rfl, fun b => by rw [if_neg (by omega)]⟩
  refine x_bipush 11 C dX12_text_9 rfl rfl ?_
  refine x_iret C T dX12_text_11 ?_
  first
    | (refine PI_i (by omega) ?_
       exact ⟨fun _ => ⟨rfl, rfl⟩, fun h => absurd (by omega) h⟩)
    | exact PI_i (by omega) hfin
    | exact PI_i (wrap_in _) hfin
    | (have e : up s73 51 3 (s73 51 3 + 1) 51 3 - 1 = t := by rw [up_s]; omega
       rw [e]
       exact PI_i (by omega) hfin)

/-- the text of a rule: its three parts -/
abbrev RuT : Type := List Int × List Int × List Int
def prt (w : Int) (x : RuT) : List Int := if w = 0 then x.1 else if w = 1 then x.2.1 else x.2.2
/-- the model's texts are X -/
def HM (σ : Sig) (X : Nat → RuT) (N : Nat) : Prop := N ≤ 6 ∧ ∀ t, t < N → ∃ n : Nat, σ 53 t = n ∧ n ≤ 160 ∧ (∀ i, i < n → 0 ≤ σ 52 (160 * t + i) ∧ σ 52 (160 * t + i) ≤ 255) ∧ pText (fun i => σ 52 (160 * t + i)) n = .inl (X t)
theorem HM_keep {σ σ' : Sig} {X : Nat → RuT} {N : Nat} (h : HM σ X N) (h1 : σ' 52 = σ 52) (h2 : σ' 53 = σ 53) : HM σ' X N := by
  unfold HM at h ⊢
  rw [h1, h2]
  exact h
def encK (q w far m f h s t : Int) : Int := ((((((q * 3 + w) * 1000 + far) * 1000 + m) * 1000 + f) * 1000 + h) * 16 + s) * 16 + t + 1
theorem mix {M a x a' x' : Int} (hM : 0 < M) (h : a * M + x = a' * M + x') (h1 : 0 ≤ x ∧ x < M) (h2 : 0 ≤ x' ∧ x' < M) : a = a' ∧ x = x' := by
  have e1 : (a * M + x) / M = a := by rw [Int.add_comm, Int.add_mul_ediv_right _ _ (by omega), Int.ediv_eq_zero_of_lt h1.1 h1.2, Int.zero_add]
  have e2 : (a' * M + x') / M = a' := by rw [Int.add_comm, Int.add_mul_ediv_right _ _ (by omega), Int.ediv_eq_zero_of_lt h2.1 h2.2, Int.zero_add]
  have : a = a' := by rw [← e1, ← e2, h]
  subst this
  exact ⟨rfl, by omega⟩
/-- what the names may be -/
def nmOk (far m f h s t : Int) : Prop := (0 ≤ far ∧ far < 1000) ∧ (0 ≤ m ∧ m < 1000) ∧ (0 ≤ f ∧ f < 1000) ∧ (0 ≤ h ∧ h < 1000) ∧ (0 ≤ s ∧ s < 16) ∧ (0 ≤ t ∧ t < 15)
theorem encK_inj {q w far m f h s t q' w' far' m' f' h' s' t' : Int} (hw : 0 ≤ w ∧ w < 3) (hw' : 0 ≤ w' ∧ w' < 3) (h1 : nmOk far m f h s t) (h2 : nmOk far' m' f' h' s' t') (e : encK q w far m f h s t = encK q' w' far' m' f' h' s' t') : q = q' ∧ w = w' ∧ far = far' ∧ m = m' ∧ f = f' ∧ h = h' ∧ s = s' ∧ t = t' := by
  unfold encK at e
  obtain ⟨a1, a2, a3, a4, a5, a6⟩ := h1
  obtain ⟨b1, b2, b3, b4, b5, b6⟩ := h2
  have e0 : ((((((q * 3 + w) * 1000 + far) * 1000 + m) * 1000 + f) * 1000 + h) * 16 + s) * 16 + t = ((((((q' * 3 + w') * 1000 + far') * 1000 + m') * 1000 + f') * 1000 + h') * 16 + s') * 16 + t' := by omega
  obtain ⟨e1, rfl⟩ := mix (show (0 : Int) < 16 by decide) e0 (by omega) (by omega)
  obtain ⟨e2, rfl⟩ := mix (by decide) e1 a5 b5
  obtain ⟨e3, rfl⟩ := mix (by decide) e2 a4 b4
  obtain ⟨e4, rfl⟩ := mix (by decide) e3 a3 b3
  obtain ⟨e5, rfl⟩ := mix (by decide) e4 a2 b2
  obtain ⟨e6, rfl⟩ := mix (by decide) e5 a1 b1
  obtain ⟨rfl, rfl⟩ := mix (by decide) e6 hw hw'
  exact ⟨rfl, rfl, rfl, rfl, rfl, rfl, rfl, rfl⟩
theorem encK_in {q w far m f h s t : Int} (hq : 0 ≤ q ∧ q ≤ 5) (hw : 0 ≤ w ∧ w < 3) (h1 : nmOk far m f h s t) : 1 ≤ encK q w far m f h s t ∧ encK q w far m f h s t ≤ 4611686018427387903 := by
  obtain ⟨a1, a2, a3, a4, a5, a6⟩ := h1
  unfold encK
  omega
/-- what is kept of readings is true -/
def KV (X : Nat → RuT) (N : Nat) (σ : Sig) : Prop := ∀ p : Nat, p < 1024 → σ 1064 p = 0 ∨ ∃ q w far m f h s t : Int, (0 ≤ q ∧ q < N) ∧ (0 ≤ w ∧ w < 3) ∧ nmOk far m f h s t ∧ σ 1064 p = encK q w far m f h s t ∧ σ 65 p = evL (nmF far m f h s t) (prt w (X q.toNat))
theorem KV_in {X : Nat → RuT} {N : Nat} {σ : Sig} (h : KV X N σ) (hN : N ≤ 6) {p : Nat} (hp : p < 1024) : 0 ≤ σ 1064 p ∧ σ 1064 p ≤ 4611686018427387903 := by
  rcases h p hp with h | ⟨q, w, far, m, f, hh, s, t, h1, h2, h3, h4, h5⟩
  · omega
  · have := encK_in (q := q) (by omega) h2 h3
    omega
theorem KV_keep {X : Nat → RuT} {N : Nat} {σ σ' : Sig} (h : KV X N σ) (h1 : σ' 1064 = σ 1064) (h2 : σ' 65 = σ 65) : KV X N σ' := by
  unfold KV at h ⊢
  rw [h1, h2]
  exact h
def hsh (x : Int) : Int := (((lZ x).toUInt64 >>> ((iZ 54).toInt64.toUInt64 &&& Int64.toUInt64 63)).toInt64).toInt
theorem hsh_in (x : Int) : 0 ≤ hsh x ∧ hsh x ≤ 1023 := by
  have hn : ((iZ 54).toInt64.toUInt64 &&& Int64.toUInt64 63).toNat = 54 := by decide +kernel
  have hb := (lZ x).toBitVec.isLt
  have eg : ∀ n : UInt64, n.toNat = 54 → (((lZ x).toUInt64 >>> n).toInt64).toBitVec.toNat = (lZ x).toBitVec.toNat / 2 ^ 54 := by
    intro n hn
    simp only [UInt64.toBitVec_toInt64, UInt64.toBitVec_shiftRight, Int64.toBitVec_toUInt64]
    simp [BitVec.toNat_ushiftRight, Nat.shiftRight_eq_div_pow, hn]
  have e2 := eg _ hn
  have hlt : (lZ x).toBitVec.toNat / 2 ^ 54 < 1024 := by
    rw [Nat.div_lt_iff_lt_mul (by decide)]
    exact Nat.lt_of_lt_of_le hb (by decide)
  have e3 : hsh x = (((lZ x).toBitVec.toNat / 2 ^ 54 : Nat) : Int) := by
    have : hsh x = (((lZ x).toUInt64 >>> ((iZ 54).toInt64.toUInt64 &&& Int64.toUInt64 63)).toInt64).toBitVec.toInt := rfl
    rw [this, BitVec.toInt_eq_toNat_cond, e2, if_pos (by omega)]
  rw [e3]
  omega
theorem lZ_of (x : Int64) : lZ x.toInt = x := Int64.ofInt_toInt x
section ROWS
variable {K : Mk} {G : Gt} {N : Nat} {ρ : Nat → Nat} {sh : Nat → Shc} {own : String} {cc : ByteArray} {nL fr lo : Nat} {pc n : Nat} {lv : List (Option Value)} {st : List Value} {σ : Sig}
theorem x_lushr54 {x : Int} (n : Nat) (C : Cx K G N ρ own cc nL fr lo) (d : decode cc pc = .ok (.lushr, 1)) (hn : pc + 1 = n) (k : Ex K G N ρ sh n lv (.long (lZ (hsh x)) :: st) (σ)) : Ex K G N ρ sh pc lv (.int (iZ 54) :: .long (lZ x) :: st) (σ) := by
  obtain ⟨p, l, e, R, s, m, args, below, meth, c, cells, slots, Q⟩ := K
  obtain ⟨hx, hb, hml, hown, hts, hlk, hK, hI, hO, hfr, hlo, hce, hsl, hN2⟩ := C
  subst hn; intro hR H locs ls hP hS hl
  exact lv_lushr hx hb d (lZ_of _).symm (k hR H locs ls hP hS hl)
end ROWS
/-- what reading by the rule leaves as it is -/
def FRk (σ σ' : Sig) : Prop := (∀ a b, a ≠ 51 → a ≠ 1051 → a ≠ 1064 → a ≠ 65 → σ' a b = σ a b) ∧ (∀ b, b < 19 ∨ 33 < b → σ' 51 b = σ 51 b)
theorem FRk_refl (σ : Sig) : FRk σ σ := ⟨fun _ _ _ _ _ _ => rfl, fun _ _ => rfl⟩
theorem FRk_trans {σ s1 s2 : Sig} (h : FRk σ s1) (h2 : FRk s1 s2) : FRk σ s2 := ⟨fun a b h3 h4 h5 h6 => (h2.1 a b h3 h4 h5 h6).trans (h.1 a b h3 h4 h5 h6), fun b h3 => (h2.2 b h3).trans (h.2 b h3)⟩
theorem FRk_row {σ s1 : Sig} (h : FRk σ s1) {a : Nat} (h1 : a ≠ 51) (h2 : a ≠ 1051) (h3 : a ≠ 1064) (h4 : a ≠ 65) : s1 a = σ a := funext fun b => h.1 a b h1 h2 h3 h4
def nmIn (σ : Sig) : Prop := nmOk (σ 51 19) (σ 51 20) (σ 51 21) (σ 51 22) (σ 51 23) (σ 51 24)
set_option maxHeartbeats 4000000 in
set_option maxRecDepth 100000 in
theorem c_X12_keptRead {l : Launch} {G : Gt} {ρ : Nat → Nat} {tc : Nat} {cl : Nat → Nat} {σ : Sig} {X : Nat → RuT} {N : Nat} {w : Int} (hX : HM σ X N) (hr : 0 ≤ σ 51 4 ∧ σ 51 4 < N) (hV : KV X N σ) (hw : 0 ≤ w ∧ w < 3) (hnm : nmIn σ) : MX l yX12_keptRead cX12_keptRead 5 (some .int) 52 1253 G (NN tc) ρ (shp tc cl) [.ref (ρ 51), .int (iZ w)] σ (PI (fun z σ' => FRk σ σ' ∧ KV X N σ' ∧ z = evL (nmM σ) (prt w (X (σ 51 4).toNat)))) := by
  refine MX_of [some (.ref (ρ 51)), some (.int (iZ w)), none, none, none] (by decide +kernel) rfl rfl (Nat.le_of_ble_eq_true rfl) ?_
  intro K hKl C T hRng
  subst hKl
  have hN := hX.1
  have hE := encK_in (q := σ 51 4) (w := w) (by omega) hw hnm
  obtain ⟨n, hn1, hn2, hn3, hn4⟩ := hX.2 (σ 51 4).toNat (by omega)
  refine x_aload_n 1 C dX12_keptRead_0 rfl rfl rfl ?_
  refine x_geti (j := 4) 4 C rfl (lt79 (by decide)) rfl rfl (by decide) inT12 tb_4_138 rfl dX12_keptRead_1 rfl (fun r1 => ?_)
  refine x_i2l 5 C dX12_keptRead_4 rfl (by omega) ?_
  refine x_ldc2 (z := 3) 8 C tb_5_105 dX12_keptRead_5 rfl ?_
  refine x_lmul 9 C dX12_keptRead_8 rfl ?_
  refine x_iload_n 10 C dX12_keptRead_9 rfl rfl rfl ?_
  refine x_i2l 11 C dX12_keptRead_10 rfl (by omega) ?_
  refine x_ladd 12 C dX12_keptRead_11 rfl ?_
  refine x_lstore_n2 13 C dX12_keptRead_12 rfl rfl ?_
  refine x_lload_n 14 C dX12_keptRead_13 rfl rfl rfl ?_
  refine x_ldc2 (z := 1000) 17 C tb_5_227 dX12_keptRead_14 rfl ?_
  refine x_lmul 18 C dX12_keptRead_17 rfl ?_
  refine x_aload_n 19 C dX12_keptRead_18 rfl rfl rfl ?_
  refine x_geti (j := 19) 22 C rfl (lt79 (by decide)) rfl rfl (by decide) inT12 tb_4_153 rfl dX12_keptRead_19 rfl (fun r19 => ?_)
  refine x_i2l 23 C dX12_keptRead_22 rfl (by omega) ?_
  refine x_ladd 24 C dX12_keptRead_23 rfl ?_
  refine x_lstore_n2 25 C dX12_keptRead_24 rfl rfl ?_
  refine x_lload_n 26 C dX12_keptRead_25 rfl rfl rfl ?_
  refine x_ldc2 (z := 1000) 29 C tb_5_227 dX12_keptRead_26 rfl ?_
  refine x_lmul 30 C dX12_keptRead_29 rfl ?_
  refine x_aload_n 31 C dX12_keptRead_30 rfl rfl rfl ?_
  refine x_geti (j := 20) 34 C rfl (lt79 (by decide)) rfl rfl (by decide) inT12 tb_4_154 rfl dX12_keptRead_31 rfl (fun r31 => ?_)
  refine x_i2l 35 C dX12_keptRead_34 rfl (by omega) ?_
  refine x_ladd 36 C dX12_keptRead_35 rfl ?_
  refine x_lstore_n2 37 C dX12_keptRead_36 rfl rfl ?_
  refine x_lload_n 38 C dX12_keptRead_37 rfl rfl rfl ?_
  refine x_ldc2 (z := 1000) 41 C tb_5_227 dX12_keptRead_38 rfl ?_
  refine x_lmul 42 C dX12_keptRead_41 rfl ?_
  refine x_aload_n 43 C dX12_keptRead_42 rfl rfl rfl ?_
  refine x_geti (j := 21) 46 C rfl (lt79 (by decide)) rfl rfl (by decide) inT12 tb_4_155 rfl dX12_keptRead_43 rfl (fun r43 => ?_)
  refine x_i2l 47 C dX12_keptRead_46 rfl (by omega) ?_
  refine x_ladd 48 C dX12_keptRead_47 rfl ?_
  refine x_lstore_n2 49 C dX12_keptRead_48 rfl rfl ?_
  refine x_lload_n 50 C dX12_keptRead_49 rfl rfl rfl ?_
  refine x_ldc2 (z := 1000) 53 C tb_5_227 dX12_keptRead_50 rfl ?_
  refine x_lmul 54 C dX12_keptRead_53 rfl ?_
  refine x_aload_n 55 C dX12_keptRead_54 rfl rfl rfl ?_
  refine x_geti (j := 22) 58 C rfl (lt79 (by decide)) rfl rfl (by decide) inT12 tb_4_156 rfl dX12_keptRead_55 rfl (fun r55 => ?_)
  refine x_i2l 59 C dX12_keptRead_58 rfl (by omega) ?_
  refine x_ladd 60 C dX12_keptRead_59 rfl ?_
  refine x_lstore_n2 61 C dX12_keptRead_60 rfl rfl ?_
  refine x_lload_n 62 C dX12_keptRead_61 rfl rfl rfl ?_
  refine x_ldc2 (z := 16) 65 C tb_5_228 dX12_keptRead_62 rfl ?_
  refine x_lmul 66 C dX12_keptRead_65 rfl ?_
  refine x_aload_n 67 C dX12_keptRead_66 rfl rfl rfl ?_
  refine x_geti (j := 23) 70 C rfl (lt79 (by decide)) rfl rfl (by decide) inT12 tb_4_157 rfl dX12_keptRead_67 rfl (fun r67 => ?_)
  refine x_i2l 71 C dX12_keptRead_70 rfl (by omega) ?_
  refine x_ladd 72 C dX12_keptRead_71 rfl ?_
  refine x_lstore_n2 73 C dX12_keptRead_72 rfl rfl ?_
  refine x_lload_n 74 C dX12_keptRead_73 rfl rfl rfl ?_
  refine x_ldc2 (z := 16) 77 C tb_5_228 dX12_keptRead_74 rfl ?_
  refine x_lmul 78 C dX12_keptRead_77 rfl ?_
  refine x_aload_n 79 C dX12_keptRead_78 rfl rfl rfl ?_
  refine x_geti (j := 24) 82 C rfl (lt79 (by decide)) rfl rfl (by decide) inT12 tb_4_158 rfl dX12_keptRead_79 rfl (fun r79 => ?_)
  refine x_i2l 83 C dX12_keptRead_82 rfl (by omega) ?_
  refine x_ladd 84 C dX12_keptRead_83 rfl ?_
  refine x_lconst 85 C dX12_keptRead_84 rfl 1 rfl ?_
  refine x_ladd 86 C dX12_keptRead_85 rfl ?_
  refine x_lstore_n2 87 C dX12_keptRead_86 rfl rfl ?_
  refine x_lload_n 88 C dX12_keptRead_87 rfl rfl rfl ?_
  obtain ⟨ek, hek⟩ : ∃ e, (encK (σ 51 4) w (σ 51 19) (σ 51 20) (σ 51 21) (σ 51 22) (σ 51 23) (σ 51 24)) = e := ⟨_, rfl⟩
  have hek2 := hek
  unfold encK at hek2
  rw [hek2]
  rw [hek] at hE
  have hpl := hsh_in (ek * 7046029254386353131)
  have hkv := KV_in hV hN (p := (hsh (ek * 7046029254386353131)).toNat) (by omega)
  have e1064 : σ (64 + 1000) = σ 1064 := rfl
  refine x_ldc2 (z := 7046029254386353131) 91 C tb_5_229 dX12_keptRead_88 rfl ?_
  refine x_lmul 92 C dX12_keptRead_91 rfl ?_
  refine x_bipush 94 C dX12_keptRead_92 rfl rfl ?_
  refine x_lushr54 95 C dX12_keptRead_94 rfl ?_
  refine x_l2i 96 C dX12_keptRead_95 rfl (by omega) ?_
  refine x_istore_4 98 C dX12_keptRead_96 rfl rfl ?_
  refine x_aload_n 99 C dX12_keptRead_98 rfl rfl rfl ?_
  refine x_getr (j := 34) 102 C rfl (lt79 (by decide)) rfl rfl (by decide) inT12 tb_4_168 rfl dX12_keptRead_99 rfl ?_
  refine x_iload 104 C dX12_keptRead_102 rfl rfl ?_
  refine x_lald 105 C rfl (lt79 (by decide)) dX12_keptRead_104 rfl (by omega) (by omega) ?_
  rw [e1064]
  refine x_lload_n 106 C dX12_keptRead_105 rfl rfl rfl ?_
  refine x_lcmp 107 C dX12_keptRead_106 rfl (by omega) (by omega) ?_
  refine x_lif_eq 134 110 C dX12_keptRead_107 rfl rfl (fun h107 => ?_) (fun h107 => ?_)
  · refine x_aload_n 135 C dX12_keptRead_134 rfl rfl rfl ?_
    refine x_getr (j := 35) 138 C rfl (lt79 (by decide)) rfl rfl (by decide) inT12 tb_4_169 rfl dX12_keptRead_135 rfl ?_
    refine x_iload 140 C dX12_keptRead_138 rfl rfl ?_
    refine x_iald 141 C rfl (lt79 (by decide)) dX12_keptRead_140 rfl (by omega) (by omega) (fun r140 => ?_)
    refine x_iret C T dX12_keptRead_141 ?_
    first
      | (rcases hV (hsh (ek * 7046029254386353131)).toNat (by omega) with h | ⟨q, w', far, m, f, h, s, t, k1, k2, k3, k4, k5⟩
         · omega
         · obtain ⟨rfl, rfl, rfl, rfl, rfl, rfl, rfl, rfl⟩ := encK_inj (q := q) (q' := σ 51 4) k2 hw k3 hnm (by rw [← k4, hek]; omega)
           exact PI_i (by omega) ⟨FRk_refl σ, hV, k5⟩)
      | (obtain ⟨hD, hP⟩ := hq122
         unfold PTx at hP
         rw [hn4] at hP
         have hz : z122 = evL (nmM σ) (prt w (X (σ 51 4).toNat)) := by rw [hP.2]; unfold prt; (repeat' split) <;> rfl
         have ez : up (up s122 65 (hsh (ek * 7046029254386353131)).toNat z122) 1064 (hsh (ek * 7046029254386353131)).toNat ek 65 (hsh (ek * 7046029254386353131)).toNat = z122 := by rw [up_r (by omega), up_s]
         refine PI_i (by rw [ez]; omega) ⟨⟨fun a b h1 h2 h3 h4 => ?_, fun b h1 => ?_⟩, fun p hp => ?_, by rw [ez]; exact hz⟩
         · rw [up_r h3, up_r h4]; exact hD.1 a b h1 h2
         · rw [up_r (by omega), up_r (by omega)]; exact hD.2 b (by omega)
         · by_cases hpe : p = (hsh (ek * 7046029254386353131)).toNat
           · subst hpe
             refine Or.inr ⟨σ 51 4, w, σ 51 19, σ 51 20, σ 51 21, σ 51 22, σ 51 23, σ 51 24, hr, hw, hnm, ?_, ?_⟩
             · rw [up_s, hek]
             · rw [ez, hz]; rfl
           · rw [up_i hpe, up_r (show (1064 : Nat) ≠ 65 by decide), up_r (show (65 : Nat) ≠ 1064 by decide), up_i hpe, hD.1 1064 p (by omega) (by omega), hD.1 65 p (by omega) (by omega)]
             exact hV p hp)
  refine x_aload_n 111 C dX12_keptRead_110 rfl rfl rfl ?_
  refine x_getr (j := 35) 114 C rfl (lt79 (by decide)) rfl rfl (by decide) inT12 tb_4_169 rfl dX12_keptRead_111 rfl ?_
  refine x_iload 116 C dX12_keptRead_114 rfl rfl ?_
  refine x_aload_n 117 C dX12_keptRead_116 rfl rfl rfl ?_
  refine x_aload_n 118 C dX12_keptRead_117 rfl rfl rfl ?_
  refine x_geti (j := 4) 121 C rfl (lt79 (by decide)) rfl rfl (by decide) inT12 tb_4_138 rfl dX12_keptRead_118 rfl (fun r118 => ?_)
  refine x_iload_n 122 C dX12_keptRead_121 rfl rfl rfl ?_
  rw [show iZ (σ 51 4) = iZ (((σ 51 4).toNat : Nat) : Int) by rw [Int.toNat_of_nonneg hr.1]]
  refine x_callVi 125 C dX12_keptRead_122 rfl (c_X12_read (t := (σ 51 4).toNat) (n := n) (w := w) (by omega) (by omega) hn1 hn2 hn3) rfl (lt79 (by decide)) rfl tb_5_129 tb_5_131 tb_0_40 tb_1_20 tb_5_132 (na := 2) (by decide +kernel) rfl ⟨by decide, by decide⟩ rfl (Nat.le_of_ble_eq_true rfl) rfl (fun z122 s122 hz122 hq122 hR122 => ?_)
  refine x_iast 126 C rfl (lt79 (by decide)) dX12_keptRead_125 rfl (by omega) (by omega) (by omega) ?_
  refine x_aload_n 127 C dX12_keptRead_126 rfl rfl rfl ?_
  refine x_getr (j := 34) 130 C rfl (lt79 (by decide)) rfl rfl (by decide) inT12 tb_4_168 rfl dX12_keptRead_127 rfl ?_
  refine x_iload 132 C dX12_keptRead_130 rfl rfl ?_
  refine x_lload_n 133 C dX12_keptRead_132 rfl rfl rfl ?_
  refine x_last 134 C rfl (lt79 (by decide)) dX12_keptRead_133 rfl (by omega) (by omega) ?_
  refine x_aload_n 135 C dX12_keptRead_134 rfl rfl rfl ?_
  refine x_getr (j := 35) 138 C rfl (lt79 (by decide)) rfl rfl (by decide) inT12 tb_4_169 rfl dX12_keptRead_135 rfl ?_
  refine x_iload 140 C dX12_keptRead_138 rfl rfl ?_
  refine x_iald 141 C rfl (lt79 (by decide)) dX12_keptRead_140 rfl (by omega) (by omega) (fun r140 => ?_)
  refine x_iret C T dX12_keptRead_141 ?_
  first
    | (rcases hV (hsh (ek * 7046029254386353131)).toNat (by omega) with h | ⟨q, w', far, m, f, h, s, t, k1, k2, k3, k4, k5⟩
       · omega
       · obtain ⟨rfl, rfl, rfl, rfl, rfl, rfl, rfl, rfl⟩ := encK_inj (q := q) (q' := σ 51 4) k2 hw k3 hnm (by rw [← k4, hek]; omega)
         exact PI_i (by omega) ⟨FRk_refl σ, hV, k5⟩)
    | (obtain ⟨hD, hP⟩ := hq122
       unfold PTx at hP
       rw [hn4] at hP
       have hz : z122 = evL (nmM σ) (prt w (X (σ 51 4).toNat)) := by rw [hP.2]; unfold prt; (repeat' split) <;> rfl
       have ez : up (up s122 65 (hsh (ek * 7046029254386353131)).toNat z122) 1064 (hsh (ek * 7046029254386353131)).toNat ek 65 (hsh (ek * 7046029254386353131)).toNat = z122 := by rw [up_r (by omega), up_s]
       refine PI_i (by rw [ez]; omega) ⟨⟨fun a b h1 h2 h3 h4 => ?_, fun b h1 => ?_⟩, fun p hp => ?_, by rw [ez]; exact hz⟩
       · rw [up_r h3, up_r h4]; exact hD.1 a b h1 h2
       · rw [up_r (by omega), up_r (by omega)]; exact hD.2 b (by omega)
       · by_cases hpe : p = (hsh (ek * 7046029254386353131)).toNat
         · subst hpe
           refine Or.inr ⟨σ 51 4, w, σ 51 19, σ 51 20, σ 51 21, σ 51 22, σ 51 23, σ 51 24, hr, hw, hnm, ?_, ?_⟩
           · rw [up_s, hek]
           · rw [ez, hz]; rfl
         · rw [up_i hpe, up_r (show (1064 : Nat) ≠ 65 by decide), up_r (show (65 : Nat) ≠ 1064 by decide), up_i hpe, hD.1 1064 p (by omega) (by omega), hD.1 65 p (by omega) (by omega)]
           exact hV p hp)

theorem MI_51 {σ : Sig} {a b c : Int} (h : MI σ) : MI (up (up (up σ 51 19 a) 51 20 b) 51 21 c) := by
  unfold MI at h ⊢
  simp only [up_r (show (55 : Nat) ≠ 51 by decide), up_r (show (56 : Nat) ≠ 51 by decide), up_r (show (57 : Nat) ≠ 51 by decide), up_r (show (58 : Nat) ≠ 51 by decide), up_r (show (59 : Nat) ≠ 51 by decide), up_r (show (60 : Nat) ≠ 51 by decide), up_r (show (61 : Nat) ≠ 51 by decide), up_r (show (62 : Nat) ≠ 51 by decide), up_r (show (63 : Nat) ≠ 51 by decide), up_i (show (8 : Nat) ≠ 19 by decide), up_i (show (8 : Nat) ≠ 20 by decide), up_i (show (8 : Nat) ≠ 21 by decide), up_i (show (4 : Nat) ≠ 19 by decide), up_i (show (4 : Nat) ≠ 20 by decide), up_i (show (4 : Nat) ≠ 21 by decide), up_i (show (13 : Nat) ≠ 19 by decide), up_i (show (13 : Nat) ≠ 20 by decide), up_i (show (13 : Nat) ≠ 21 by decide), up_i (show (18 : Nat) ≠ 19 by decide), up_i (show (18 : Nat) ≠ 20 by decide), up_i (show (18 : Nat) ≠ 21 by decide)]
  exact h
set_option maxHeartbeats 4000000 in
set_option maxRecDepth 100000 in
theorem c_X12_says {l : Launch} {G : Gt} {ρ : Nat → Nat} {tc : Nat} {cl : Nat → Nat} {σ : Sig} {X : Nat → RuT} {N : Nat} {w s t far : Int} (hX : HM σ X N) (hr : 0 ≤ σ 51 4 ∧ σ 51 4 < N) (hV : KV X N σ) (hw : 0 ≤ w ∧ w < 3) (hT : MI σ) (hs : 0 ≤ s ∧ s < 5) (ht : 0 ≤ t ∧ t < 6) (hf : 0 ≤ far ∧ far ≤ 9) : MX l yX12_says cX12_says 5 (some .int) 53 1277 G (NN tc) ρ (shp tc cl) [.ref (ρ 51), .int (iZ w), .int (iZ s), .int (iZ t), .int (iZ far)] σ (PI (fun z σ' => FRk σ σ' ∧ KV X N σ' ∧ z = evL (nmF far (σ 62 s.toNat) (if w = 2 then 0 else σ 51 8) (if w = 2 then 0 else σ 55 (whereF (σ 56 t.toNat) (σ 57 t.toNat) (σ 59 t.toNat) (σ 62 s.toNat)).toNat) s t) (prt w (X (σ 51 4).toNat)))) := by
  refine MX_of [some (.ref (ρ 51)), some (.int (iZ w)), some (.int (iZ s)), some (.int (iZ t)), some (.int (iZ far))] (by decide +kernel) rfl rfl (Nat.le_of_ble_eq_true rfl) ?_
  intro K hKl C T hRng
  subst hKl
  have hg := hT.1
  have h62 := (hT.2.2.2.2 s.toNat).2.2.2.2.2.2.2.1
  have hq := hT.2.2.2.2 t.toNat
  have hwi := whereF_in (k := σ 56 t.toNat) (h := σ 57 t.toNat) (n := σ 59 t.toNat) (m := σ 62 s.toNat) (by omega) (by omega) (by omega)
  have h55 := (hT.2.2.2.2 (whereF (σ 56 t.toNat) (σ 57 t.toNat) (σ 59 t.toNat) (σ 62 s.toNat)).toNat).1
  refine x_aload_n 1 C dX12_says_0 rfl rfl rfl ?_
  refine x_iload 3 C dX12_says_1 rfl rfl ?_
  refine x_puti (j := 19) tyX12 6 C rfl (lt79 (by decide)) rfl rfl (by decide) inT12 tyX12_ok nmX12 tb_4_153 rfl rfl rfl dX12_says_3 rfl (by omega) ?_
  refine x_aload_n 7 C dX12_says_6 rfl rfl rfl ?_
  refine x_aload_n 8 C dX12_says_7 rfl rfl rfl ?_
  refine x_getr (j := 16) 11 C rfl (lt79 (by decide)) rfl rfl (by decide) inT12 tb_4_150 rfl dX12_says_8 rfl ?_
  refine x_iload_n 12 C dX12_says_11 rfl rfl rfl ?_
  refine x_iald 13 C rfl (lt79 (by decide)) dX12_says_12 rfl (by omega) (by omega) (fun r12 => ?_)
  rw [show up σ 51 19 far 62 s.toNat = σ 62 s.toNat from up_r (by omega)] at r12 ⊢
  refine x_puti (j := 20) tyX12 16 C rfl (lt79 (by decide)) rfl rfl (by decide) inT12 tyX12_ok nmX12 tb_4_154 rfl rfl rfl dX12_says_13 rfl (by omega) ?_
  have J30 : ∀ (v : Int), (v = (if w = 2 then 0 else σ 51 8)) → Ex K G (NN tc) ρ (shp tc cl) 30 [some (.ref (ρ 51)), some (.int (iZ w)), some (.int (iZ s)), some (.int (iZ t)), some (.int (iZ far))] [.int (iZ v), .ref (ρ 51)] (up (up σ 51 19 far) 51 20 (σ 62 s.toNat)) := by
    intro v hinv
    have hv := hinv
    have hvr : 0 ≤ v ∧ v ≤ 9 := by rw [hinv]; split <;> omega
    refine x_puti (j := 21) tyX12 33 C rfl (lt79 (by decide)) rfl rfl (by decide) inT12 tyX12_ok nmX12 tb_4_155 rfl rfl rfl dX12_says_30 rfl (by omega) ?_
    have J59 : ∀ (x : Int), (x = (if w = 2 then 0 else σ 55 (whereF (σ 56 t.toNat) (σ 57 t.toNat) (σ 59 t.toNat) (σ 62 s.toNat)).toNat)) → Ex K G (NN tc) ρ (shp tc cl) 59 [some (.ref (ρ 51)), some (.int (iZ w)), some (.int (iZ s)), some (.int (iZ t)), some (.int (iZ far))] [.int (iZ x), .ref (ρ 51)] (up (up (up σ 51 19 far) 51 20 (σ 62 s.toNat)) 51 21 v) := by
      intro x hinv
      have hx := hinv
      have hxr : 0 ≤ x ∧ x ≤ 9 := by rw [hinv]; split <;> omega
      refine x_puti (j := 22) tyX12 62 C rfl (lt79 (by decide)) rfl rfl (by decide) inT12 tyX12_ok nmX12 tb_4_156 rfl rfl rfl dX12_says_59 rfl (by omega) ?_
      refine x_aload_n 63 C dX12_says_62 rfl rfl rfl ?_
      refine x_iload_n 64 C dX12_says_63 rfl rfl rfl ?_
      refine x_puti (j := 23) tyX12 67 C rfl (lt79 (by decide)) rfl rfl (by decide) inT12 tyX12_ok nmX12 tb_4_157 rfl rfl rfl dX12_says_64 rfl (by omega) ?_
      refine x_aload_n 68 C dX12_says_67 rfl rfl rfl ?_
      refine x_iload_n 69 C dX12_says_68 rfl rfl rfl ?_
      refine x_puti (j := 24) tyX12 72 C rfl (lt79 (by decide)) rfl rfl (by decide) inT12 tyX12_ok nmX12 tb_4_158 rfl rfl rfl dX12_says_69 rfl (by omega) ?_
      obtain ⟨s2, hs2⟩ : ∃ s2, up (up (up (up (up (up σ 51 19 far) 51 20 (σ 62 s.toNat)) 51 21 v) 51 22 x) 51 23 s) 51 24 t = s2 := ⟨_, rfl⟩
      rw [hs2]
      have g1 : ∀ a b, a ≠ 51 → s2 a b = σ a b := fun a b ha => by rw [← hs2, up_r ha, up_r ha, up_r ha, up_r ha, up_r ha, up_r ha]
      have g2 : ∀ b, b < 19 ∨ 24 < b → s2 51 b = σ 51 b := fun b hb => by rw [← hs2, up_i (by omega), up_i (by omega), up_i (by omega), up_i (by omega), up_i (by omega), up_i (by omega)]
      have g24 : s2 51 24 = t := by rw [← hs2, up_s]
      have g23 : s2 51 23 = s := by rw [← hs2, up_i (by omega), up_s]
      have g22 : s2 51 22 = x := by rw [← hs2, up_i (by omega), up_i (by omega), up_s]
      have g21 : s2 51 21 = v := by rw [← hs2, up_i (by omega), up_i (by omega), up_i (by omega), up_s]
      have g20 : s2 51 20 = σ 62 s.toNat := by rw [← hs2, up_i (by omega), up_i (by omega), up_i (by omega), up_i (by omega), up_s]
      have g19 : s2 51 19 = far := by rw [← hs2, up_i (by omega), up_i (by omega), up_i (by omega), up_i (by omega), up_i (by omega), up_s]
      have g4 : s2 51 4 = σ 51 4 := g2 4 (by omega)
      have hX2 : HM s2 X N := HM_keep hX (funext fun b => g1 52 b (by omega)) (funext fun b => g1 53 b (by omega))
      have hV2 : KV X N s2 := KV_keep hV (funext fun b => g1 1064 b (by omega)) (funext fun b => g1 65 b (by omega))
      have hnm2 : nmIn s2 := by
        unfold nmIn nmOk
        rw [g19, g20, g21, g22, g23, g24]
        omega
      refine x_aload_n 73 C dX12_says_72 rfl rfl rfl ?_
      refine x_iload_n 74 C dX12_says_73 rfl rfl rfl ?_
      refine x_callVi 77 C dX12_says_74 rfl (c_X12_keptRead hX2 (by omega) hV2 hw hnm2) rfl (lt79 (by decide)) rfl tb_5_223 tb_5_225 tb_0_59 tb_1_20 tb_5_226 (na := 1) (by decide +kernel) rfl ⟨by decide, by decide⟩ rfl (Nat.le_of_ble_eq_true rfl) rfl (fun z74 s74 hz74 hq74 hR74 => ?_)
      refine x_iret C T dX12_says_77 ?_
      obtain ⟨k1, k2, k3⟩ := hq74
      refine PI_i (by omega) ⟨⟨fun a b h1 h2 h3 h4 => (k1.1 a b h1 h2 h3 h4).trans (g1 a b h1), fun b h => (k1.2 b h).trans (g2 b (by omega))⟩, k2, ?_⟩
      rw [k3, g4]
      unfold nmM
      rw [g19, g20, g21, g22, g23, g24, ← hv, ← hx]
    refine x_aload_n 34 C dX12_says_33 rfl rfl rfl ?_
    refine x_iload_n 35 C dX12_says_34 rfl rfl rfl ?_
    refine x_iconst 36 C dX12_says_35 rfl ?_
    refine x_icmp_ne 43 39 C dX12_says_36 rfl rfl (by omega) (by omega) (fun h36 => ?_) (fun h36 => ?_)
    · refine x_aload_n 44 C dX12_says_43 rfl rfl rfl ?_
      refine x_getr (j := 7) 47 C rfl (lt79 (by decide)) rfl rfl (by decide) inT12 tb_4_141 rfl dX12_says_44 rfl ?_
      refine x_aload_n 48 C dX12_says_47 rfl rfl rfl ?_
      refine x_iload_n 49 C dX12_says_48 rfl rfl rfl ?_
      refine x_aload_n 50 C dX12_says_49 rfl rfl rfl ?_
      refine x_getr (j := 16) 53 C rfl (lt79 (by decide)) rfl rfl (by decide) inT12 tb_4_150 rfl dX12_says_50 rfl ?_
      refine x_iload_n 54 C dX12_says_53 rfl rfl rfl ?_
      refine x_iald 55 C rfl (lt79 (by decide)) dX12_says_54 rfl (by omega) (by omega) (fun r54 => ?_)
      refine x_callVe 58 C dX12_says_55 rfl (c_X12_whereAt (by omega) (by rw [up_r (by omega), up_r (by omega), up_r (by omega)]; omega) (MI_51 hT)) rfl (lt79 (by decide)) rfl tb_5_116 tb_5_118 tb_0_39 tb_1_20 tb_5_119 (na := 2) (by decide +kernel) rfl ⟨by decide, by decide⟩ rfl (Nat.le_of_ble_eq_true rfl) rfl (fun r55 => ?_)
      simp only [up_r (show (56 : Nat) ≠ 51 by decide), up_r (show (57 : Nat) ≠ 51 by decide), up_r (show (59 : Nat) ≠ 51 by decide), up_r (show (62 : Nat) ≠ 51 by decide)] at *
      refine x_iald 59 C rfl (lt79 (by decide)) dX12_says_58 rfl (by omega) (by omega) (fun r58 => ?_)
      exact J59 _ (by first | rw [if_pos (by omega)] | (rw [if_neg (by omega)]; simp only [up_r (show (55 : Nat) ≠ 51 by decide), up_r (show (56 : Nat) ≠ 51 by decide), up_r (show (57 : Nat) ≠ 51 by decide), up_r (show (59 : Nat) ≠ 51 by decide), up_r (show (62 : Nat) ≠ 51 by decide)]))
    refine x_iconst 40 C dX12_says_39 rfl ?_
    refine x_goto 59 C dX12_says_40 rfl ?_
    exact J59 _ (by first | rw [if_pos (by omega)] | (rw [if_neg (by omega)]; simp only [up_r (show (55 : Nat) ≠ 51 by decide), up_r (show (56 : Nat) ≠ 51 by decide), up_r (show (57 : Nat) ≠ 51 by decide), up_r (show (59 : Nat) ≠ 51 by decide), up_r (show (62 : Nat) ≠ 51 by decide)]))
  refine x_aload_n 17 C dX12_says_16 rfl rfl rfl ?_
  refine x_iload_n 18 C dX12_says_17 rfl rfl rfl ?_
  refine x_iconst 19 C dX12_says_18 rfl ?_
  refine x_icmp_ne 26 22 C dX12_says_19 rfl rfl (by omega) (by omega) (fun h19 => ?_) (fun h19 => ?_)
  · refine x_aload_n 27 C dX12_says_26 rfl rfl rfl ?_
    refine x_geti (j := 8) 30 C rfl (lt79 (by decide)) rfl rfl (by decide) inT12 tb_4_142 rfl dX12_says_27 rfl (fun r27 => ?_)
    exact J30 _ (by first | rw [if_pos (by omega)] | (rw [if_neg (by omega), up_i (by omega), up_i (by omega)]))
  refine x_iconst 23 C dX12_says_22 rfl ?_
  refine x_goto 30 C dX12_says_23 rfl ?_
  exact J30 _ (by first | rw [if_pos (by omega)] | (rw [if_neg (by omega), up_i (by omega), up_i (by omega)]))
