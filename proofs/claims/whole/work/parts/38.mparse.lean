/-! the model's parser: what it answers -/
def PPm (σ0 : Sig) (F n : Nat) (u : Int) (D : Nat) (R : Pr) (z : Int) (s : Sig) : Prop := match R with
  | .inl (p', L) => Bal (nmM σ0) D L z ∧ MSt σ0 F n p' u s
  | .inr a => MBad σ0 a u s
def PCm (l : Launch) (G : Gt) (ρ : Nat → Nat) (tc : Nat) (cl : Nat → Nat) (y : MethodName) (cc : ByteArray) (nL fr lo k D : Nat) (q : (Nat → Int) → Nat → Nat → Pr) : Prop := ∀ (σ0 σ : Sig) (F n p : Nat) (u : Int), MSt σ0 F n p u σ → (u + k = 5 ∧ 0 ≤ u) → MX l y cc nL (some .int) fr lo G (NN tc) ρ (shp tc cl) [.ref (ρ 51)] σ (PI (fun z σ' => PPm σ0 F n u D (q (bM σ0 F) n p) z σ'))
theorem CT_TW {σ0 s : Sig} {F n : Nat} {u T W : Int} (h : CT σ0 F n u s T W) : (T = 9 ↔ W = 11) ∧ (T = 8 ↔ W = 10) ∧ (T = 7 ↔ W = 9) ∧ (T = 4 ↔ W = 6) ∧ (T = 5 ↔ W = 7) ∧ (T = 6 ↔ W = 8) := by
  rcases h with ⟨p, h, rfl, rfl⟩ | h
  · rcases kM_cases (bM σ0 F) n p with c | c | c | c | c
    · omega
    · rcases c.2.2.2.2.2.2 with d | d | d <;> omega
    · omega
    · have := bS_in c.2.2.1; omega
    · omega
  · omega
theorem PPm_ct {σ0 s : Sig} {F n D : Nat} {u : Int} {R : Pr} {z : Int} (h : PPm σ0 F n u D R z s) : ∃ T W, CT σ0 F n u s T W ∧ ((∃ p1 L1, R = .inl (p1, L1) ∧ Bal (nmM σ0) D L1 z ∧ MSt σ0 F n p1 u s ∧ T = lxT (bM σ0 F) n p1) ∨ (∃ a, R = .inr a ∧ MBad σ0 a u s ∧ T = -1)) := by
  cases R with
  | inl r =>
    obtain ⟨p1, L1⟩ := r
    exact ⟨_, _, CT_good h.2, Or.inl ⟨p1, L1, rfl, h.1, h.2, rfl⟩⟩
  | inr a => exact ⟨_, _, CT_bad h, Or.inr ⟨a, rfl, h, rfl⟩⟩
/-- a chain under way; q1 tells how much is left -/
def CIm (σ0 : Sig) (F n : Nat) (u : Int) (D : Nat) (op : Int → Option Int) (q : Nat → Pr) (R : Pr) (q1 : Nat) (z : Int) (s : Sig) (T W : Int) : Prop := CT σ0 F n u s T W ∧ ((∃ f p1 L1, q1 = n - p1 ∧ n < f + p1 ∧ Bal (nmM σ0) D L1 z ∧ MSt σ0 F n p1 u s ∧ pChain (bM σ0 F) n op q f (p1, L1) = R ∧ T = lxT (bM σ0 F) n p1) ∨ (∃ a, R = .inr a ∧ MBad σ0 a u s ∧ T = -1 ∧ q1 = 0))
theorem CIm_start {σ0 s : Sig} {F n p D D' : Nat} {u : Int} {op : Int → Option Int} {q : Nat → Pr} {R : Pr} {z : Int} (hq : GQ (bM σ0 F) n D' q) (hp : p ≤ n) (hn : n ≤ 160) (hd : D' ≤ D) (hR : pSeq (bM σ0 F) n op q p = R) (h : PPm σ0 F n u D' (q p) z s) : ∃ q1 T W, CIm σ0 F n u D op q R q1 z s T W := by
  unfold pSeq at hR
  obtain ⟨T, W, hT, ⟨p1, L1, h1, h2, h3, h4⟩ | ⟨a, h1, h2, h3⟩⟩ := PPm_ct h
  · rw [h1] at hR
    obtain ⟨a1, a2, a3, -⟩ := hq p hp _ _ h1
    exact ⟨_, T, W, hT, Or.inl ⟨160, p1, L1, rfl, by omega, bal_up h2 hd, h3, hR, h4⟩⟩
  · rw [h1] at hR
    exact ⟨_, T, W, hT, Or.inr ⟨a, hR.symm, h2, h3, rfl⟩⟩
theorem CIm_end {σ0 s : Sig} {F n D q1 : Nat} {u : Int} {op : Int → Option Int} {q : Nat → Pr} {R : Pr} {z T W : Int} (h : CIm σ0 F n u D op q R q1 z s T W) (ht : op T = none) : PPm σ0 F n u D R z s := by
  obtain ⟨hT, ⟨f, p1, L1, h1, h2, h3, h4, h5, h6⟩ | ⟨a, h1, h2, h3, h4⟩⟩ := h
  · subst h6
    cases f with
    | zero => subst h5; exact ⟨h3, h4⟩
    | succ f =>
      simp only [pChain, ht] at h5
      subst h5; exact ⟨h3, h4⟩
  · subst h1; exact h2
theorem CIm_good {σ0 s : Sig} {F n D q1 : Nat} {u : Int} {op : Int → Option Int} {q : Nat → Pr} {R : Pr} {z T W : Int} (h : CIm σ0 F n u D op q R q1 z s T W) (ht : 0 < T) : ∃ f p1 L1, q1 = n - p1 ∧ p1 < n ∧ n ≤ f + p1 ∧ Bal (nmM σ0) D L1 z ∧ MSt σ0 F n p1 u s ∧ pChain (bM σ0 F) n op q (f + 1) (p1, L1) = R ∧ T = lxT (bM σ0 F) n p1 := by
  obtain ⟨hT, ⟨f, p1, L1, h1, h2, h3, h4, h5, h6⟩ | ⟨a, h1, h2, h3, h4⟩⟩ := h
  · have hlt := lxE_lt (b := bM σ0 F) (n := n) (p := p1) (by omega)
    have hle := lxE_le (b := bM σ0 F) (n := n) (p := p1) h4.2.1
    cases f with
    | zero => omega
    | succ f => exact ⟨f, p1, L1, h1, by omega, by omega, h3, h4, h5, h6⟩
  · omega
theorem CIm_step {σ0 s : Sig} {F n D D' p1 f : Nat} {u : Int} {op : Int → Option Int} {q : Nat → Pr} {R : Pr} {L1 : List Int} {z c w : Int} (hq : GQ (bM σ0 F) n D' q) (hd : D' + 1 ≤ D) (hp : p1 < n) (hf : n ≤ f + p1) (h3 : Bal (nmM σ0) D L1 z) (h5 : pChain (bM σ0 F) n op q (f + 1) (p1, L1) = R) (hc : op (lxT (bM σ0 F) n p1) = some c) (ho : opOk op) (h : PPm σ0 F n u D' (q (lxE (bM σ0 F) n p1)) w s) : ∃ q2 T W, q2 < n - p1 ∧ CIm σ0 F n u D op q R q2 (binF c z w) s T W := by
  obtain ⟨ht, hcc⟩ := ho _ _ hc
  have hlt := lxE_lt ht
  have hle := lxE_le (b := bM σ0 F) (n := n) (p := p1) (by omega)
  obtain ⟨T, W, hT, ⟨p2, L2, g1, g2, g3, g4⟩ | ⟨a, g1, g2, g3⟩⟩ := PPm_ct h
  · simp only [pChain, hc, g1] at h5
    obtain ⟨a1, a2, a3, -⟩ := hq _ hle _ _ g1
    exact ⟨n - p2, T, W, by omega, hT, Or.inl ⟨f, p2, _, rfl, by omega, bal_bin hcc hd h3 g2, g3, h5, g4⟩⟩
  · simp only [pChain, hc, g1] at h5
    exact ⟨0, T, W, by omega, hT, Or.inr ⟨a, h5.symm, g2, g3, rfl⟩⟩
theorem MSt_tw {σ0 s : Sig} {F n p : Nat} {u : Int} (h : MSt σ0 F n p u s) (ht : 40 ≤ lxT (bM σ0 F) n p) : s 1051 30 = lxT (bM σ0 F) n p ∧ lxT (bM σ0 F) n p ≤ 61 := by
  rcases kM_cases (bM σ0 F) n p with c | c | c | c | c
  · omega
  · rcases c.2.2.2.2.2.2 with d | d | d
    · omega
    · omega
    · omega
  · omega
  · have := bS_in c.2.2.1
    exact ⟨by rw [h.2.2.2.1.2.2.2.2 c.1, c.2.1], by omega⟩
  · omega
theorem PPm_close {σ0 s : Sig} {F n D : Nat} {u v : Int} {R : Pr} {z : Int} (h : PPm σ0 F n u D R z s) : PPm σ0 F n v D R z (up s 51 31 v) := by
  cases R with
  | inl r => exact ⟨h.1, MSt_open h.2⟩
  | inr a => exact MBad_open h
theorem PPm_u {σ0 s : Sig} {F n D : Nat} {u : Int} {R : Pr} {z : Int} (h : PPm σ0 F n u D R z s) : s 51 31 = u := by
  cases R with
  | inl r => exact MSt_u h.2
  | inr a => exact h.2.2.2
set_option maxHeartbeats 4000000 in
set_option maxRecDepth 100000 in
theorem c_X12_term {l : Launch} {G : Gt} {ρ : Nat → Nat} {tc : Nat} {cl : Nat → Nat} {σ : Sig} {σ0 : Sig} {F n p k : Nat} {u : Int} (hS : MSt σ0 F n p u σ) (hk : u + k = 5 ∧ 0 ≤ u) (hI : PCm l G ρ tc cl yX12_atom cX12_atom 2 (8 + 7 * k) (200 + 168 * k) k (5 * k + 1) (fun b n => pOne b n k)) : MX l yX12_term cX12_term 2 (some .int) (9 + 7 * k) (224 + 168 * k) G (NN tc) ρ (shp tc cl) [.ref (ρ 51)] σ (PI (fun z σ' => PPm σ0 F n u (5 * k + 2) (pTerm (bM σ0 F) n k p) z σ')) := by
  refine MX_of [some (.ref (ρ 51)), none] (by decide +kernel) rfl rfl (Nat.le_of_ble_eq_true rfl) ?_
  intro K hKl C T hRng
  subst hKl
  obtain ⟨R, hR⟩ : ∃ R, pTerm (bM σ0 F) n k p = R := ⟨_, rfl⟩
  have hg := (parse_GQ (bM σ0 F) n k).1
  have hn160 := hS.1.2.2.1
  refine x_aload_n 1 C dX12_term_0 rfl rfl rfl ?_
  refine x_callVi 4 C dX12_term_1 rfl (hI σ0 σ F n p u hS hk) rfl (lt79 (by decide)) rfl tb_5_186 tb_5_188 tb_0_53 tb_1_20 tb_5_189 (na := 0) (by decide +kernel) rfl ⟨by omega, by omega⟩ rfl (Nat.le_of_ble_eq_true rfl) rfl (fun z1 s1 hz1 hq1 hR1 => ?_)
  obtain ⟨q0, T0, W0, hC0⟩ := CIm_start (op := opMul) (D := 5 * k + 2) hg (MSt_le hS) hn160 (by omega) hR hq1
  refine x_istore_n1 5 C dX12_term_4 rfl rfl ?_
  have L5 : ∀ (m : Nat) (q1 : Nat) (v : Int) (s1 : Sig) (tk wk : Int), m = q1 → (CIm σ0 F n u (5 * k + 2) opMul (pOne (bM σ0 F) n k) R q1 v s1 tk wk ∧ (-2147483648 ≤ v ∧ v ≤ 2147483647)) → Ex K G (NN tc) ρ (shp tc cl) 5 [some (.ref (ρ 51)), some (.int (iZ v))] [] s1 := by
    intro m
    induction m using Nat.strongRecOn with
    | ind m ih =>
      intro q1 v s1 tk wk hm hinv
      obtain ⟨hC, hvr⟩ := hinv
      have hTW := CT_TW hC.1
      refine x_aload_n 6 C dX12_term_5 rfl rfl rfl ?_
      refine x_bipush 8 C dX12_term_6 rfl rfl ?_
      refine x_callVe 11 C dX12_term_8 rfl (c_X12_isSign hC.1 (by omega)) rfl (lt79 (by decide)) rfl tb_5_190 tb_5_192 tb_0_54 tb_1_20 tb_5_193 (na := 1) (by decide +kernel) rfl ⟨by omega, by omega⟩ rfl (Nat.le_of_ble_eq_true rfl) rfl (fun r8 => ?_)
      first
        | refine x_ifb_eq 28 14 C dX12_term_11 rfl rfl (fun h11 => ?_) (fun h11 => ?_)
        | refine x_if_eq 28 14 C dX12_term_11 rfl rfl (by omega) (fun h11 => ?_) (fun h11 => ?_)
      · have hfin := CIm_end hC (by unfold opMul; rw [if_neg h11])
        refine x_iload_n 29 C dX12_term_28 rfl rfl rfl ?_
        refine x_iret C T dX12_term_29 ?_
        refine PI_i (by omega) ?_
        rw [show pTerm (bM σ0 F) n k p = R from hR]; exact hfin
      obtain ⟨f, p1, L1, hq1, hpn, hf, hb, hS1, hch, hT1⟩ := CIm_good hC (by omega)
      refine x_aload_n 15 C dX12_term_14 rfl rfl rfl ?_
      refine x_callVv 18 C dX12_term_15 rfl (c_X12_nextToken (q := lxE (bM σ0 F) n p1) (MSt_HG hS1) (MSt_here hS1 (kM_ne4 (by omega))) (MSt_ele hS1)) rfl (lt79 (by decide)) rfl tb_5_133 tb_5_135 tb_0_41 tb_1_20 tb_5_136 (na := 0) (by decide +kernel) rfl ⟨by omega, by omega⟩ rfl (Nat.le_of_ble_eq_true rfl) rfl (fun s15 hq15 hR15 => ?_)
      have hS2 := MSt_next hS1 hq15.1 hq15.2
      refine x_iload_n 19 C dX12_term_18 rfl rfl rfl ?_
      refine x_aload_n 20 C dX12_term_19 rfl rfl rfl ?_
      refine x_callVi 23 C dX12_term_20 rfl (hI σ0 s15 F n _ u hS2 hk) rfl (lt79 (by decide)) rfl tb_5_186 tb_5_188 tb_0_53 tb_1_20 tb_5_189 (na := 0) (by decide +kernel) rfl ⟨by omega, by omega⟩ rfl (Nat.le_of_ble_eq_true rfl) rfl (fun z20 s20 hz20 hq20 hR20 => ?_)
      obtain ⟨q2, T2, W2, hlt, hC2⟩ := CIm_step (c := -14) hg (by omega) hpn hf hb hch (by unfold opMul; rw [if_pos (by omega)]) opMul_ok hq20
      refine x_imul 24 C dX12_term_23 rfl ?_
      refine x_wrap 24 C rfl ?_
      refine x_istore_n1 25 C dX12_term_24 rfl rfl ?_
      refine x_goto 5 C dX12_term_25 rfl ?_
      exact ih q2 (by omega) q2 _ _ T2 W2 rfl ⟨hC2, wrap_in _⟩
  exact L5 _ q0 _ _ T0 W0 rfl ⟨hC0, by omega⟩

set_option maxHeartbeats 4000000 in
set_option maxRecDepth 100000 in
theorem c_X12_added {l : Launch} {G : Gt} {ρ : Nat → Nat} {tc : Nat} {cl : Nat → Nat} {σ : Sig} {σ0 : Sig} {F n p k : Nat} {u : Int} (hS : MSt σ0 F n p u σ) (hk : u + k = 5 ∧ 0 ≤ u) (hI : PCm l G ρ tc cl yX12_term cX12_term 2 (9 + 7 * k) (224 + 168 * k) k (5 * k + 2) (fun b n => pTerm b n k)) : MX l yX12_added cX12_added 4 (some .int) (10 + 7 * k) (248 + 168 * k) G (NN tc) ρ (shp tc cl) [.ref (ρ 51)] σ (PI (fun z σ' => PPm σ0 F n u (5 * k + 3) (pSum (bM σ0 F) n k p) z σ')) := by
  refine MX_of [some (.ref (ρ 51)), none, none, none] (by decide +kernel) rfl rfl (Nat.le_of_ble_eq_true rfl) ?_
  intro K hKl C T hRng
  subst hKl
  obtain ⟨R, hR⟩ : ∃ R, pSum (bM σ0 F) n k p = R := ⟨_, rfl⟩
  have hg := pTerm_GQ (bM σ0 F) n k
  have hn160 := hS.1.2.2.1
  refine x_aload_n 1 C dX12_added_0 rfl rfl rfl ?_
  refine x_callVi 4 C dX12_added_1 rfl (hI σ0 σ F n p u hS hk) rfl (lt79 (by decide)) rfl tb_5_182 tb_5_184 tb_0_52 tb_1_20 tb_5_185 (na := 0) (by decide +kernel) rfl ⟨by omega, by omega⟩ rfl (Nat.le_of_ble_eq_true rfl) rfl (fun z1 s1 hz1 hq1 hR1 => ?_)
  obtain ⟨q0, T0, W0, hC0⟩ := CIm_start (op := opAdd) (D := 5 * k + 3) hg (MSt_le hS) hn160 (by omega) hR hq1
  refine x_istore_n1 5 C dX12_added_4 rfl rfl ?_
  have L5 : ∀ (m : Nat) (q1 : Nat) (v : Int) (s1 : Sig) (tk wk : Int), m = q1 → (CIm σ0 F n u (5 * k + 3) opAdd (pTerm (bM σ0 F) n k) R q1 v s1 tk wk ∧ (-2147483648 ≤ v ∧ v ≤ 2147483647)) → Ex K G (NN tc) ρ (shp tc cl) 5 [some (.ref (ρ 51)), some (.int (iZ v)), none, none] [] s1 := by
    intro m
    induction m using Nat.strongRecOn with
    | ind m ih =>
      intro q1 v s1 tk wk hm hinv
      obtain ⟨hC, hvr⟩ := hinv
      have hTW := CT_TW hC.1
      have J23 : ∀ (d : Unit), (tk = 43 ∨ tk = 45) → Ex K G (NN tc) ρ (shp tc cl) 23 [some (.ref (ρ 51)), some (.int (iZ v)), none, none] [] s1 := by
        intro d hinv
        have hT43 := hinv
        obtain ⟨f, p1, L1, hq1, hpn, hf, hb, hS1, hch, hT1⟩ := CIm_good hC (by omega)
        have htw := MSt_tw hS1 (by omega)
        have e51 : s1 (51 + 1000) 30 = s1 1051 30 := rfl
        have J39 : ∀ (m0 : Int), ((tk = 43 ∧ m0 = 1) ∨ (tk = 45 ∧ m0 = 0)) → Ex K G (NN tc) ρ (shp tc cl) 39 [some (.ref (ρ 51)), some (.int (iZ v)), none, none] [.int (iZ m0)] s1 := by
          intro m0 hinv
          have hm := hinv
          refine x_istore_n2 40 C dX12_added_39 rfl rfl ?_
          refine x_aload_n 41 C dX12_added_40 rfl rfl rfl ?_
          refine x_callVv 44 C dX12_added_41 rfl (c_X12_nextToken (q := lxE (bM σ0 F) n p1) (MSt_HG hS1) (MSt_here hS1 (kM_ne4 (by omega))) (MSt_ele hS1)) rfl (lt79 (by decide)) rfl tb_5_133 tb_5_135 tb_0_41 tb_1_20 tb_5_136 (na := 0) (by decide +kernel) rfl ⟨by omega, by omega⟩ rfl (Nat.le_of_ble_eq_true rfl) rfl (fun s41 hq41 hR41 => ?_)
          have hS2 := MSt_next hS1 hq41.1 hq41.2
          refine x_aload_n 45 C dX12_added_44 rfl rfl rfl ?_
          refine x_callVi 48 C dX12_added_45 rfl (hI σ0 s41 F n _ u hS2 hk) rfl (lt79 (by decide)) rfl tb_5_182 tb_5_184 tb_0_52 tb_1_20 tb_5_185 (na := 0) (by decide +kernel) rfl ⟨by omega, by omega⟩ rfl (Nat.le_of_ble_eq_true rfl) rfl (fun z45 s45 hz45 hq45 hR45 => ?_)
          obtain ⟨q2, T2, W2, hlt, hC2⟩ := CIm_step (c := if tk = 43 then -12 else -13) hg (by omega) hpn hf hb hch (by unfold opAdd; rw [← hT1]; rcases hT43 with h | h <;> simp [h]) opAdd_ok hq45
          refine x_istore_n3 49 C dX12_added_48 rfl rfl ?_
          have J62 : ∀ (w : Int), (iZ w = iZ (binF (if tk = 43 then -12 else -13) v z45)) → Ex K G (NN tc) ρ (shp tc cl) 62 [some (.ref (ρ 51)), some (.int (iZ v)), some (.int (iZ m0)), some (.int (iZ z45))] [.int (iZ w)] s45 := by
            intro w hinv
            rw [hinv]
            refine x_istore_n1 63 C dX12_added_62 rfl rfl ?_
            refine x_goto 5 C dX12_added_63 rfl ?_
            refine x_drop_2 ?_
            refine x_drop_3 ?_
            exact ih q2 (by omega) q2 _ _ T2 W2 rfl ⟨hC2, binF_in _ _ _⟩
          refine x_iload_n 50 C dX12_added_49 rfl rfl rfl ?_
          first
            | refine x_ifb_eq 59 53 C dX12_added_50 rfl rfl (fun h50 => ?_) (fun h50 => ?_)
            | refine x_if_eq 59 53 C dX12_added_50 rfl rfl (by omega) (fun h50 => ?_) (fun h50 => ?_)
          · refine x_iload_n 60 C dX12_added_59 rfl rfl rfl ?_
            refine x_iload_n 61 C dX12_added_60 rfl rfl rfl ?_
            refine x_isub 62 C dX12_added_61 rfl ?_
            refine J62 _ ?_
            first | (rw [if_pos (by omega)]; show _ = iZ (wrap _); rw [iZ_wrap]; done) | (rw [if_neg (by omega)]; show _ = iZ (wrap _); rw [iZ_wrap])
          refine x_iload_n 54 C dX12_added_53 rfl rfl rfl ?_
          refine x_iload_n 55 C dX12_added_54 rfl rfl rfl ?_
          refine x_iadd 56 C dX12_added_55 rfl ?_
          refine x_goto 62 C dX12_added_56 rfl ?_
          refine J62 _ ?_
          first | (rw [if_pos (by omega)]; show _ = iZ (wrap _); rw [iZ_wrap]; done) | (rw [if_neg (by omega)]; show _ = iZ (wrap _); rw [iZ_wrap])
        refine x_aload_n 24 C dX12_added_23 rfl rfl rfl ?_
        refine x_getl (j := 30) 27 C rfl (lt79 (by decide)) rfl rfl (by decide) inT12 tb_4_164 rfl dX12_added_24 rfl ?_
        refine x_ldc2 (z := 43) 30 C tb_5_198 dX12_added_27 rfl ?_
        refine x_lcmp 31 C dX12_added_30 rfl (by omega) (by omega) ?_
        refine x_lif_ne 38 34 C dX12_added_31 rfl rfl (fun h31 => ?_) (fun h31 => ?_)
        · refine x_iconst 39 C dX12_added_38 rfl ?_
          exact J39 _ (by omega)
        refine x_iconst 35 C dX12_added_34 rfl ?_
        refine x_goto 39 C dX12_added_35 rfl ?_
        exact J39 _ (by omega)
      refine x_aload_n 6 C dX12_added_5 rfl rfl rfl ?_
      refine x_bipush 8 C dX12_added_6 rfl rfl ?_
      refine x_callVe 11 C dX12_added_8 rfl (c_X12_isSign hC.1 (by omega)) rfl (lt79 (by decide)) rfl tb_5_190 tb_5_192 tb_0_54 tb_1_20 tb_5_193 (na := 1) (by decide +kernel) rfl ⟨by omega, by omega⟩ rfl (Nat.le_of_ble_eq_true rfl) rfl (fun r8 => ?_)
      first
        | refine x_ifb_ne 23 14 C dX12_added_11 rfl rfl (fun h11 => ?_) (fun h11 => ?_)
        | refine x_if_ne 23 14 C dX12_added_11 rfl rfl (by omega) (fun h11 => ?_) (fun h11 => ?_)
      · exact J23 () (by omega)
      refine x_aload_n 15 C dX12_added_14 rfl rfl rfl ?_
      refine x_bipush 17 C dX12_added_15 rfl rfl ?_
      refine x_callVe 20 C dX12_added_17 rfl (c_X12_isSign hC.1 (by omega)) rfl (lt79 (by decide)) rfl tb_5_190 tb_5_192 tb_0_54 tb_1_20 tb_5_193 (na := 1) (by decide +kernel) rfl ⟨by omega, by omega⟩ rfl (Nat.le_of_ble_eq_true rfl) rfl (fun r17 => ?_)
      first
        | refine x_ifb_eq 66 23 C dX12_added_20 rfl rfl (fun h20 => ?_) (fun h20 => ?_)
        | refine x_if_eq 66 23 C dX12_added_20 rfl rfl (by omega) (fun h20 => ?_) (fun h20 => ?_)
      · have hfin := CIm_end hC (by unfold opAdd; rw [if_neg (by omega), if_neg (by omega)])
        refine x_iload_n 67 C dX12_added_66 rfl rfl rfl ?_
        refine x_iret C T dX12_added_67 ?_
        refine PI_i (by omega) ?_
        rw [show pSum (bM σ0 F) n k p = R from hR]; exact hfin
      exact J23 () (by omega)
  exact L5 _ q0 _ _ T0 W0 rfl ⟨hC0, by omega⟩

set_option maxHeartbeats 4000000 in
set_option maxRecDepth 100000 in
theorem c_X12_both {l : Launch} {G : Gt} {ρ : Nat → Nat} {tc : Nat} {cl : Nat → Nat} {σ : Sig} {σ0 : Sig} {F n p k : Nat} {u : Int} (hS : MSt σ0 F n p u σ) (hk : u + k = 5 ∧ 0 ≤ u) (hI : PCm l G ρ tc cl yX12_not cX12_not 4 (12 + 7 * k) (296 + 168 * k) k (5 * k + 4) (fun b n => pNot b n k)) : MX l yX12_both cX12_both 3 (some .int) (13 + 7 * k) (320 + 168 * k) G (NN tc) ρ (shp tc cl) [.ref (ρ 51)] σ (PI (fun z σ' => PPm σ0 F n u (5 * k + 5) (pAnd (bM σ0 F) n k p) z σ')) := by
  refine MX_of [some (.ref (ρ 51)), none, none] (by decide +kernel) rfl rfl (Nat.le_of_ble_eq_true rfl) ?_
  intro K hKl C T hRng
  subst hKl
  obtain ⟨R, hR⟩ : ∃ R, pAnd (bM σ0 F) n k p = R := ⟨_, rfl⟩
  have hg := (parse_GQ (bM σ0 F) n k).2.1
  have hn160 := hS.1.2.2.1
  refine x_aload_n 1 C dX12_both_0 rfl rfl rfl ?_
  refine x_callVi 4 C dX12_both_1 rfl (hI σ0 σ F n p u hS hk) rfl (lt79 (by decide)) rfl tb_5_170 tb_5_172 tb_0_49 tb_1_20 tb_5_173 (na := 0) (by decide +kernel) rfl ⟨by omega, by omega⟩ rfl (Nat.le_of_ble_eq_true rfl) rfl (fun z1 s1 hz1 hq1 hR1 => ?_)
  obtain ⟨q0, T0, W0, hC0⟩ := CIm_start (op := opAnd) (D := 5 * k + 5) hg (MSt_le hS) hn160 (by omega) hR hq1
  refine x_istore_n1 5 C dX12_both_4 rfl rfl ?_
  have L5 : ∀ (m : Nat) (q1 : Nat) (v : Int) (s1 : Sig) (tk wk : Int), m = q1 → (CIm σ0 F n u (5 * k + 5) opAnd (pNot (bM σ0 F) n k) R q1 v s1 tk wk ∧ (-2147483648 ≤ v ∧ v ≤ 2147483647)) → Ex K G (NN tc) ρ (shp tc cl) 5 [some (.ref (ρ 51)), some (.int (iZ v)), none] [] s1 := by
    intro m
    induction m using Nat.strongRecOn with
    | ind m ih =>
      intro q1 v s1 tk wk hm hinv
      obtain ⟨hC, hvr⟩ := hinv
      have hTW := CT_TW hC.1
      refine x_aload_n 6 C dX12_both_5 rfl rfl rfl ?_
      refine x_bipush 8 C dX12_both_6 rfl rfl ?_
      refine x_bipush 10 C dX12_both_8 rfl rfl ?_
      refine x_bipush 12 C dX12_both_10 rfl rfl ?_
      refine x_iconst 13 C dX12_both_12 rfl ?_
      refine x_iconst 14 C dX12_both_13 rfl ?_
      refine x_iconst 15 C dX12_both_14 rfl ?_
      refine x_iconst 16 C dX12_both_15 rfl ?_
      refine x_iconst 17 C dX12_both_16 rfl ?_
      refine x_callVe 20 C dX12_both_17 rfl (c_X12_isWord (j := 10) hC.1 (by omega) (by decide) (by decide)) rfl (lt79 (by decide)) rfl tb_5_146 tb_5_148 tb_0_43 tb_1_20 tb_5_149 (na := 8) (by decide +kernel) rfl ⟨by omega, by omega⟩ rfl (Nat.le_of_ble_eq_true rfl) rfl (fun r17 => ?_)
      first
        | refine x_ifb_eq 49 23 C dX12_both_20 rfl rfl (fun h20 => ?_) (fun h20 => ?_)
        | refine x_if_eq 49 23 C dX12_both_20 rfl rfl (by omega) (fun h20 => ?_) (fun h20 => ?_)
      · have hfin := CIm_end hC (by unfold opAnd; rw [if_neg (by omega)])
        refine x_iload_n 50 C dX12_both_49 rfl rfl rfl ?_
        refine x_iret C T dX12_both_50 ?_
        refine PI_i (by omega) ?_
        rw [show pAnd (bM σ0 F) n k p = R from hR]; exact hfin
      obtain ⟨f, p1, L1, hq1, hpn, hf, hb, hS1, hch, hT1⟩ := CIm_good hC (by omega)
      refine x_aload_n 24 C dX12_both_23 rfl rfl rfl ?_
      refine x_callVv 27 C dX12_both_24 rfl (c_X12_nextToken (q := lxE (bM σ0 F) n p1) (MSt_HG hS1) (MSt_here hS1 (kM_ne4 (by omega))) (MSt_ele hS1)) rfl (lt79 (by decide)) rfl tb_5_133 tb_5_135 tb_0_41 tb_1_20 tb_5_136 (na := 0) (by decide +kernel) rfl ⟨by omega, by omega⟩ rfl (Nat.le_of_ble_eq_true rfl) rfl (fun s24 hq24 hR24 => ?_)
      have hS2 := MSt_next hS1 hq24.1 hq24.2
      refine x_aload_n 28 C dX12_both_27 rfl rfl rfl ?_
      refine x_callVi 31 C dX12_both_28 rfl (hI σ0 s24 F n _ u hS2 hk) rfl (lt79 (by decide)) rfl tb_5_170 tb_5_172 tb_0_49 tb_1_20 tb_5_173 (na := 0) (by decide +kernel) rfl ⟨by omega, by omega⟩ rfl (Nat.le_of_ble_eq_true rfl) rfl (fun z28 s28 hz28 hq28 hR28 => ?_)
      obtain ⟨q2, T2, W2, hlt, hC2⟩ := CIm_step (c := -8) hg (by omega) hpn hf hb hch (by unfold opAnd; rw [if_pos (by omega)]) opAnd_ok hq28
      have J45 : ∀ (w : Int), (w = binF (-8) v z28) → Ex K G (NN tc) ρ (shp tc cl) 45 [some (.ref (ρ 51)), some (.int (iZ v)), some (.int (iZ z28))] [.int (iZ w)] s28 := by
        intro w hinv
        subst hinv
        refine x_istore_n1 46 C dX12_both_45 rfl rfl ?_
        refine x_goto 5 C dX12_both_46 rfl ?_
        refine x_drop_2 ?_
        exact ih q2 (by omega) q2 _ _ T2 W2 rfl ⟨hC2, binF_in _ _ _⟩
      refine x_istore_n2 32 C dX12_both_31 rfl rfl ?_
      refine x_iload_n 33 C dX12_both_32 rfl rfl rfl ?_
      first
        | refine x_ifb_eq 44 36 C dX12_both_33 rfl rfl (fun h33 => ?_) (fun h33 => ?_)
        | refine x_if_eq 44 36 C dX12_both_33 rfl rfl (by omega) (fun h33 => ?_) (fun h33 => ?_)
      · refine x_iconst 45 C dX12_both_44 rfl ?_
        refine J45 _ ?_
        first
          | (show _ = (if _ then (1 : Int) else 0); first | rw [if_pos (by omega)] | rw [if_neg (by omega)])
      refine x_iload_n 37 C dX12_both_36 rfl rfl rfl ?_
      first
        | refine x_ifb_eq 44 40 C dX12_both_37 rfl rfl (fun h37 => ?_) (fun h37 => ?_)
        | refine x_if_eq 44 40 C dX12_both_37 rfl rfl (by omega) (fun h37 => ?_) (fun h37 => ?_)
      · refine x_iconst 45 C dX12_both_44 rfl ?_
        refine J45 _ ?_
        first
          | (show _ = (if _ then (1 : Int) else 0); first | rw [if_pos (by omega)] | rw [if_neg (by omega)])
      refine x_iconst 41 C dX12_both_40 rfl ?_
      refine x_goto 45 C dX12_both_41 rfl ?_
      refine J45 _ ?_
      first
        | (show _ = (if _ then (1 : Int) else 0); first | rw [if_pos (by omega)] | rw [if_neg (by omega)])
  exact L5 _ q0 _ _ T0 W0 rfl ⟨hC0, by omega⟩

set_option maxHeartbeats 4000000 in
set_option maxRecDepth 100000 in
theorem c_X12_either {l : Launch} {G : Gt} {ρ : Nat → Nat} {tc : Nat} {cl : Nat → Nat} {σ : Sig} {σ0 : Sig} {F n p k : Nat} {u : Int} (hS : MSt σ0 F n p u σ) (hk : u + k = 5 ∧ 0 ≤ u) (hI : PCm l G ρ tc cl yX12_both cX12_both 3 (13 + 7 * k) (320 + 168 * k) k (5 * k + 5) (fun b n => pAnd b n k)) : MX l yX12_either cX12_either 3 (some .int) (14 + 7 * k) (344 + 168 * k) G (NN tc) ρ (shp tc cl) [.ref (ρ 51)] σ (PI (fun z σ' => PPm σ0 F n u (5 * k + 6) (pOr (bM σ0 F) n k p) z σ')) := by
  refine MX_of [some (.ref (ρ 51)), none, none] (by decide +kernel) rfl rfl (Nat.le_of_ble_eq_true rfl) ?_
  intro K hKl C T hRng
  subst hKl
  obtain ⟨R, hR⟩ : ∃ R, pOr (bM σ0 F) n k p = R := ⟨_, rfl⟩
  have hg := pAnd_GQ (bM σ0 F) n k
  have hn160 := hS.1.2.2.1
  rw [pOr_eq] at hR
  refine x_aload_n 1 C dX12_either_0 rfl rfl rfl ?_
  refine x_callVi 4 C dX12_either_1 rfl (hI σ0 σ F n p u hS hk) rfl (lt79 (by decide)) rfl tb_5_166 tb_5_168 tb_0_48 tb_1_20 tb_5_169 (na := 0) (by decide +kernel) rfl ⟨by omega, by omega⟩ rfl (Nat.le_of_ble_eq_true rfl) rfl (fun z1 s1 hz1 hq1 hR1 => ?_)
  obtain ⟨q0, T0, W0, hC0⟩ := CIm_start (op := opOr) (D := 5 * k + 6) hg (MSt_le hS) hn160 (by omega) hR hq1
  refine x_istore_n1 5 C dX12_either_4 rfl rfl ?_
  have L5 : ∀ (m : Nat) (q1 : Nat) (v : Int) (s1 : Sig) (tk wk : Int), m = q1 → (CIm σ0 F n u (5 * k + 6) opOr (pAnd (bM σ0 F) n k) R q1 v s1 tk wk ∧ (-2147483648 ≤ v ∧ v ≤ 2147483647)) → Ex K G (NN tc) ρ (shp tc cl) 5 [some (.ref (ρ 51)), some (.int (iZ v)), none] [] s1 := by
    intro m
    induction m using Nat.strongRecOn with
    | ind m ih =>
      intro q1 v s1 tk wk hm hinv
      obtain ⟨hC, hvr⟩ := hinv
      have hTW := CT_TW hC.1
      refine x_aload_n 6 C dX12_either_5 rfl rfl rfl ?_
      refine x_bipush 8 C dX12_either_6 rfl rfl ?_
      refine x_bipush 10 C dX12_either_8 rfl rfl ?_
      refine x_iconst 11 C dX12_either_10 rfl ?_
      refine x_iconst 12 C dX12_either_11 rfl ?_
      refine x_iconst 13 C dX12_either_12 rfl ?_
      refine x_iconst 14 C dX12_either_13 rfl ?_
      refine x_iconst 15 C dX12_either_14 rfl ?_
      refine x_iconst 16 C dX12_either_15 rfl ?_
      refine x_callVe 19 C dX12_either_16 rfl (c_X12_isWord (j := 9) hC.1 (by omega) (by decide) (by decide)) rfl (lt79 (by decide)) rfl tb_5_146 tb_5_148 tb_0_43 tb_1_20 tb_5_149 (na := 8) (by decide +kernel) rfl ⟨by omega, by omega⟩ rfl (Nat.le_of_ble_eq_true rfl) rfl (fun r16 => ?_)
      first
        | refine x_ifb_eq 48 22 C dX12_either_19 rfl rfl (fun h19 => ?_) (fun h19 => ?_)
        | refine x_if_eq 48 22 C dX12_either_19 rfl rfl (by omega) (fun h19 => ?_) (fun h19 => ?_)
      · have hfin := CIm_end hC (by unfold opOr; rw [if_neg (by omega)])
        refine x_iload_n 49 C dX12_either_48 rfl rfl rfl ?_
        refine x_iret C T dX12_either_49 ?_
        refine PI_i (by omega) ?_
        rw [pOr_eq, show pSeq (bM σ0 F) n opOr (pAnd (bM σ0 F) n k) p = R from hR]; exact hfin
      obtain ⟨f, p1, L1, hq1, hpn, hf, hb, hS1, hch, hT1⟩ := CIm_good hC (by omega)
      refine x_aload_n 23 C dX12_either_22 rfl rfl rfl ?_
      refine x_callVv 26 C dX12_either_23 rfl (c_X12_nextToken (q := lxE (bM σ0 F) n p1) (MSt_HG hS1) (MSt_here hS1 (kM_ne4 (by omega))) (MSt_ele hS1)) rfl (lt79 (by decide)) rfl tb_5_133 tb_5_135 tb_0_41 tb_1_20 tb_5_136 (na := 0) (by decide +kernel) rfl ⟨by omega, by omega⟩ rfl (Nat.le_of_ble_eq_true rfl) rfl (fun s23 hq23 hR23 => ?_)
      have hS2 := MSt_next hS1 hq23.1 hq23.2
      refine x_aload_n 27 C dX12_either_26 rfl rfl rfl ?_
      refine x_callVi 30 C dX12_either_27 rfl (hI σ0 s23 F n _ u hS2 hk) rfl (lt79 (by decide)) rfl tb_5_166 tb_5_168 tb_0_48 tb_1_20 tb_5_169 (na := 0) (by decide +kernel) rfl ⟨by omega, by omega⟩ rfl (Nat.le_of_ble_eq_true rfl) rfl (fun z27 s27 hz27 hq27 hR27 => ?_)
      obtain ⟨q2, T2, W2, hlt, hC2⟩ := CIm_step (c := -7) hg (by omega) hpn hf hb hch (by unfold opOr; rw [if_pos (by omega)]) opOr_ok hq27
      have J44 : ∀ (w : Int), (w = binF (-7) v z27) → Ex K G (NN tc) ρ (shp tc cl) 44 [some (.ref (ρ 51)), some (.int (iZ v)), some (.int (iZ z27))] [.int (iZ w)] s27 := by
        intro w hinv
        subst hinv
        refine x_istore_n1 45 C dX12_either_44 rfl rfl ?_
        refine x_goto 5 C dX12_either_45 rfl ?_
        refine x_drop_2 ?_
        exact ih q2 (by omega) q2 _ _ T2 W2 rfl ⟨hC2, binF_in _ _ _⟩
      refine x_istore_n2 31 C dX12_either_30 rfl rfl ?_
      refine x_iload_n 32 C dX12_either_31 rfl rfl rfl ?_
      first
        | refine x_ifb_ne 39 35 C dX12_either_32 rfl rfl (fun h32 => ?_) (fun h32 => ?_)
        | refine x_if_ne 39 35 C dX12_either_32 rfl rfl (by omega) (fun h32 => ?_) (fun h32 => ?_)
      · refine x_iconst 40 C dX12_either_39 rfl ?_
        refine x_goto 44 C dX12_either_40 rfl ?_
        refine J44 _ ?_
        first
          | (show _ = (if _ then (1 : Int) else 0); first | rw [if_pos (by omega)] | rw [if_neg (by omega)])
      refine x_iload_n 36 C dX12_either_35 rfl rfl rfl ?_
      first
        | refine x_ifb_eq 43 39 C dX12_either_36 rfl rfl (fun h36 => ?_) (fun h36 => ?_)
        | refine x_if_eq 43 39 C dX12_either_36 rfl rfl (by omega) (fun h36 => ?_) (fun h36 => ?_)
      · refine x_iconst 44 C dX12_either_43 rfl ?_
        refine J44 _ ?_
        first
          | (show _ = (if _ then (1 : Int) else 0); first | rw [if_pos (by omega)] | rw [if_neg (by omega)])
      refine x_iconst 40 C dX12_either_39 rfl ?_
      refine x_goto 44 C dX12_either_40 rfl ?_
      refine J44 _ ?_
      first
        | (show _ = (if _ then (1 : Int) else 0); first | rw [if_pos (by omega)] | rw [if_neg (by omega)])
  exact L5 _ q0 _ _ T0 W0 rfl ⟨hC0, by omega⟩

set_option maxHeartbeats 4000000 in
set_option maxRecDepth 100000 in
theorem c_X12_not {l : Launch} {G : Gt} {ρ : Nat → Nat} {tc : Nat} {cl : Nat → Nat} {σ : Sig} {σ0 : Sig} {F n p k : Nat} {u : Int} (hS : MSt σ0 F n p u σ) (hk : u + k = 5 ∧ 0 ≤ u) (hI : PCm l G ρ tc cl yX12_added cX12_added 4 (10 + 7 * k) (248 + 168 * k) k (5 * k + 3) (fun b n => pSum b n k)) (hN : ∀ k', k' + 1 = k → PCm l G ρ tc cl yX12_not cX12_not 4 (12 + 7 * k') (296 + 168 * k') (k') (5 * k' + 4) (fun b n => pNot b n k')) : MX l yX12_not cX12_not 4 (some .int) (12 + 7 * k) (296 + 168 * k) G (NN tc) ρ (shp tc cl) [.ref (ρ 51)] σ (PI (fun z σ' => PPm σ0 F n u (5 * k + 4) (pNot (bM σ0 F) n k p) z σ')) := by
  refine MX_of [some (.ref (ρ 51)), none, none, none] (by decide +kernel) rfl rfl (Nat.le_of_ble_eq_true rfl) ?_
  intro K hKl C T hRng
  subst hKl
  have hT := CT_good hS
  have hTW := CT_TW hT
  have hg := pSum_GQ (bM σ0 F) n k
  refine x_aload_n 1 C dX12_not_0 rfl rfl rfl ?_
  refine x_bipush 3 C dX12_not_1 rfl rfl ?_
  refine x_bipush 5 C dX12_not_3 rfl rfl ?_
  refine x_bipush 7 C dX12_not_5 rfl rfl ?_
  refine x_iconst 8 C dX12_not_7 rfl ?_
  refine x_iconst 9 C dX12_not_8 rfl ?_
  refine x_iconst 10 C dX12_not_9 rfl ?_
  refine x_iconst 11 C dX12_not_10 rfl ?_
  refine x_iconst 12 C dX12_not_11 rfl ?_
  refine x_callVe 15 C dX12_not_12 rfl (c_X12_isWord (j := 11) hT (by omega) (by decide) (by decide)) rfl (lt79 (by decide)) rfl tb_5_146 tb_5_148 tb_0_43 tb_1_20 tb_5_149 (na := 8) (by decide +kernel) rfl ⟨by omega, by omega⟩ rfl (Nat.le_of_ble_eq_true rfl) rfl (fun r12 => ?_)
  first
    | refine x_ifb_eq 52 18 C dX12_not_15 rfl rfl (fun h15 => ?_) (fun h15 => ?_)
    | refine x_if_eq 52 18 C dX12_not_15 rfl rfl (by omega) (fun h15 => ?_) (fun h15 => ?_)
  · have ht9 : lxT (bM σ0 F) n p ≠ 9 := by omega
    refine x_aload_n 53 C dX12_not_52 rfl rfl rfl ?_
    refine x_callVi 56 C dX12_not_53 rfl (hI σ0 σ F n p u hS hk) rfl (lt79 (by decide)) rfl tb_5_178 tb_5_180 tb_0_51 tb_1_20 tb_5_181 (na := 0) (by decide +kernel) rfl ⟨by omega, by omega⟩ rfl (Nat.le_of_ble_eq_true rfl) rfl (fun z53 s53 hz53 hq53 hR53 => ?_)
    obtain ⟨T2, W2, hT2, hc2⟩ := PPm_ct hq53
    refine x_istore_n1 57 C dX12_not_56 rfl rfl ?_
    refine x_aload_n 58 C dX12_not_57 rfl rfl rfl ?_
    refine x_bipush 60 C dX12_not_58 rfl rfl ?_
    refine x_callVe 63 C dX12_not_60 rfl (c_X12_isSign hT2 (by omega)) rfl (lt79 (by decide)) rfl tb_5_190 tb_5_192 tb_0_54 tb_1_20 tb_5_193 (na := 1) (by decide +kernel) rfl ⟨by omega, by omega⟩ rfl (Nat.le_of_ble_eq_true rfl) rfl (fun r60 => ?_)
    have J77 : ∀ (d : Unit), (T2 = 60 ∨ T2 = 61) → Ex K G (NN tc) ρ (shp tc cl) 77 [some (.ref (ρ 51)), some (.int (iZ z53)), none, none] [] s53 := by
      intro d hinv
      have hT60 := hinv
      obtain ⟨p1, L1, hr1, hb1, hS1, hT1⟩ : ∃ p1 L1, pSum (bM σ0 F) n k p = .inl (p1, L1) ∧ Bal (nmM σ0) (5 * k + 3) L1 z53 ∧ MSt σ0 F n p1 u s53 ∧ T2 = lxT (bM σ0 F) n p1 := by
        rcases hc2 with h | ⟨a, h1, h2, h3⟩
        · exact h
        · omega
      have htw := MSt_tw hS1 (by omega)
      have e51 : s53 (51 + 1000) 30 = s53 1051 30 := rfl
      have J93 : ∀ (m0 : Int), ((T2 = 60 ∧ m0 = 1) ∨ (T2 = 61 ∧ m0 = 0)) → Ex K G (NN tc) ρ (shp tc cl) 93 [some (.ref (ρ 51)), some (.int (iZ z53)), none, none] [.int (iZ m0)] s53 := by
        intro m0 hinv
        have hm := hinv
        refine x_istore_n2 94 C dX12_not_93 rfl rfl ?_
        refine x_aload_n 95 C dX12_not_94 rfl rfl rfl ?_
        refine x_callVv 98 C dX12_not_95 rfl (c_X12_nextToken (q := lxE (bM σ0 F) n p1) (MSt_HG hS1) (MSt_here hS1 (kM_ne4 (by omega))) (MSt_ele hS1)) rfl (lt79 (by decide)) rfl tb_5_133 tb_5_135 tb_0_41 tb_1_20 tb_5_136 (na := 0) (by decide +kernel) rfl ⟨by omega, by omega⟩ rfl (Nat.le_of_ble_eq_true rfl) rfl (fun s95 hq95 hR95 => ?_)
        have hS2 := MSt_next hS1 hq95.1 hq95.2
        refine x_aload_n 99 C dX12_not_98 rfl rfl rfl ?_
        refine x_callVi 102 C dX12_not_99 rfl (hI σ0 s95 F n _ u hS2 hk) rfl (lt79 (by decide)) rfl tb_5_178 tb_5_180 tb_0_51 tb_1_20 tb_5_181 (na := 0) (by decide +kernel) rfl ⟨by omega, by omega⟩ rfl (Nat.le_of_ble_eq_true rfl) rfl (fun z99 s99 hz99 hq99 hR99 => ?_)
        have hfin : ∀ w : Int, w = binF (if T2 = 60 then -10 else -11) z53 z99 → PPm σ0 F n u (5 * k + 4) (pNot (bM σ0 F) n k p) w s99 := by
          intro w hw
          rw [pNot_n (by omega), pCmp_s hr1 (by omega)]
          obtain ⟨T3, W3, hT3, ⟨p2, L2, g1, g2, g3, g4⟩ | ⟨a, g1, g2, g3⟩⟩ := PPm_ct hq99
          · rw [show pSum (bM σ0 F) n k (lxE (bM σ0 F) n p1) = _ from g1, hw]
            rw [hT1]
            exact ⟨bal_bin (by split <;> omega) (by omega) (bal_up hb1 (by omega)) g2, g3⟩
          · rw [show pSum (bM σ0 F) n k (lxE (bM σ0 F) n p1) = _ from g1]; exact g2
        refine x_istore_n3 103 C dX12_not_102 rfl rfl ?_
        refine x_iload_n 104 C dX12_not_103 rfl rfl rfl ?_
        first
          | refine x_ifb_eq 115 107 C dX12_not_104 rfl rfl (fun h104 => ?_) (fun h104 => ?_)
          | refine x_if_eq 115 107 C dX12_not_104 rfl rfl (by omega) (fun h104 => ?_) (fun h104 => ?_)
        · refine x_iload_n 116 C dX12_not_115 rfl rfl rfl ?_
          refine x_iload_n 117 C dX12_not_116 rfl rfl rfl ?_
          refine x_icmp_ne 124 120 C dX12_not_117 rfl rfl (by omega) (by omega) (fun h117 => ?_) (fun h117 => ?_)
          · refine x_iconst 125 C dX12_not_124 rfl ?_
            refine x_iret C T dX12_not_125 ?_
            refine PI_i (by omega) ?_
            first
              | (obtain rfl : k = 0 := by omega
                 rw [pNot_0 (by omega)]; exact (hq19.1 (by omega)).2)
              | (rw [pNot_n (by omega)]
                 rcases hc2 with ⟨p1, L1, g1, g2, g3, g4⟩ | ⟨a, g1, g2, g3⟩
                 · rw [pCmp_n g1 (by omega)]; exact ⟨bal_up g2 (by omega), g3⟩
                 · rw [pCmp_f g1]; exact g2)
              | (refine hfin _ ?_
                 first
                   | (rw [if_pos (by omega)]; show _ = (if _ then (1 : Int) else 0); first | (rw [if_pos (by omega)]; done) | (rw [if_neg (by omega)]; done))
                   | (rw [if_neg (by omega)]; show _ = (if _ then (1 : Int) else 0); first | (rw [if_pos (by omega)]; done) | (rw [if_neg (by omega)]; done)))
              | (rw [pNot_s (by omega), show s28 51 31 - 1 = u by omega]
                 obtain ⟨T3, W3, hT3, ⟨p2, L2, g1, g2, g3, g4⟩ | ⟨a, g1, g2, g3⟩⟩ := PPm_ct hq28
                 · rw [show pNot (bM σ0 F) n k' (lxE (bM σ0 F) n p) = _ from g1]
                   have := bal_up (bal_not g2) (show 5 * k' + 4 ≤ 5 * (k' + 1) + 4 by omega)
                   first
                     | (rw [if_pos (by omega)] at this; exact ⟨this, MSt_open g3⟩)
                     | (rw [if_neg (by omega)] at this; exact ⟨this, MSt_open g3⟩)
                 · rw [show pNot (bM σ0 F) n k' (lxE (bM σ0 F) n p) = _ from g1]; exact MBad_open g2)
          refine x_iconst 121 C dX12_not_120 rfl ?_
          refine x_goto 125 C dX12_not_121 rfl ?_
          refine x_iret C T dX12_not_125 ?_
          refine PI_i (by omega) ?_
          first
            | (obtain rfl : k = 0 := by omega
               rw [pNot_0 (by omega)]; exact (hq19.1 (by omega)).2)
            | (rw [pNot_n (by omega)]
               rcases hc2 with ⟨p1, L1, g1, g2, g3, g4⟩ | ⟨a, g1, g2, g3⟩
               · rw [pCmp_n g1 (by omega)]; exact ⟨bal_up g2 (by omega), g3⟩
               · rw [pCmp_f g1]; exact g2)
            | (refine hfin _ ?_
               first
                 | (rw [if_pos (by omega)]; show _ = (if _ then (1 : Int) else 0); first | (rw [if_pos (by omega)]; done) | (rw [if_neg (by omega)]; done))
                 | (rw [if_neg (by omega)]; show _ = (if _ then (1 : Int) else 0); first | (rw [if_pos (by omega)]; done) | (rw [if_neg (by omega)]; done)))
            | (rw [pNot_s (by omega), show s28 51 31 - 1 = u by omega]
               obtain ⟨T3, W3, hT3, ⟨p2, L2, g1, g2, g3, g4⟩ | ⟨a, g1, g2, g3⟩⟩ := PPm_ct hq28
               · rw [show pNot (bM σ0 F) n k' (lxE (bM σ0 F) n p) = _ from g1]
                 have := bal_up (bal_not g2) (show 5 * k' + 4 ≤ 5 * (k' + 1) + 4 by omega)
                 first
                   | (rw [if_pos (by omega)] at this; exact ⟨this, MSt_open g3⟩)
                   | (rw [if_neg (by omega)] at this; exact ⟨this, MSt_open g3⟩)
               · rw [show pNot (bM σ0 F) n k' (lxE (bM σ0 F) n p) = _ from g1]; exact MBad_open g2)
        refine x_iload_n 108 C dX12_not_107 rfl rfl rfl ?_
        refine x_iload_n 109 C dX12_not_108 rfl rfl rfl ?_
        refine x_icmp_ge 124 112 C dX12_not_109 rfl rfl (by omega) (by omega) (fun h109 => ?_) (fun h109 => ?_)
        · refine x_iconst 125 C dX12_not_124 rfl ?_
          refine x_iret C T dX12_not_125 ?_
          refine PI_i (by omega) ?_
          first
            | (obtain rfl : k = 0 := by omega
               rw [pNot_0 (by omega)]; exact (hq19.1 (by omega)).2)
            | (rw [pNot_n (by omega)]
               rcases hc2 with ⟨p1, L1, g1, g2, g3, g4⟩ | ⟨a, g1, g2, g3⟩
               · rw [pCmp_n g1 (by omega)]; exact ⟨bal_up g2 (by omega), g3⟩
               · rw [pCmp_f g1]; exact g2)
            | (refine hfin _ ?_
               first
                 | (rw [if_pos (by omega)]; show _ = (if _ then (1 : Int) else 0); first | (rw [if_pos (by omega)]; done) | (rw [if_neg (by omega)]; done))
                 | (rw [if_neg (by omega)]; show _ = (if _ then (1 : Int) else 0); first | (rw [if_pos (by omega)]; done) | (rw [if_neg (by omega)]; done)))
            | (rw [pNot_s (by omega), show s28 51 31 - 1 = u by omega]
               obtain ⟨T3, W3, hT3, ⟨p2, L2, g1, g2, g3, g4⟩ | ⟨a, g1, g2, g3⟩⟩ := PPm_ct hq28
               · rw [show pNot (bM σ0 F) n k' (lxE (bM σ0 F) n p) = _ from g1]
                 have := bal_up (bal_not g2) (show 5 * k' + 4 ≤ 5 * (k' + 1) + 4 by omega)
                 first
                   | (rw [if_pos (by omega)] at this; exact ⟨this, MSt_open g3⟩)
                   | (rw [if_neg (by omega)] at this; exact ⟨this, MSt_open g3⟩)
               · rw [show pNot (bM σ0 F) n k' (lxE (bM σ0 F) n p) = _ from g1]; exact MBad_open g2)
        refine x_goto 120 C dX12_not_112 rfl ?_
        refine x_iconst 121 C dX12_not_120 rfl ?_
        refine x_goto 125 C dX12_not_121 rfl ?_
        refine x_iret C T dX12_not_125 ?_
        refine PI_i (by omega) ?_
        first
          | (obtain rfl : k = 0 := by omega
             rw [pNot_0 (by omega)]; exact (hq19.1 (by omega)).2)
          | (rw [pNot_n (by omega)]
             rcases hc2 with ⟨p1, L1, g1, g2, g3, g4⟩ | ⟨a, g1, g2, g3⟩
             · rw [pCmp_n g1 (by omega)]; exact ⟨bal_up g2 (by omega), g3⟩
             · rw [pCmp_f g1]; exact g2)
          | (refine hfin _ ?_
             first
               | (rw [if_pos (by omega)]; show _ = (if _ then (1 : Int) else 0); first | (rw [if_pos (by omega)]; done) | (rw [if_neg (by omega)]; done))
               | (rw [if_neg (by omega)]; show _ = (if _ then (1 : Int) else 0); first | (rw [if_pos (by omega)]; done) | (rw [if_neg (by omega)]; done)))
          | (rw [pNot_s (by omega), show s28 51 31 - 1 = u by omega]
             obtain ⟨T3, W3, hT3, ⟨p2, L2, g1, g2, g3, g4⟩ | ⟨a, g1, g2, g3⟩⟩ := PPm_ct hq28
             · rw [show pNot (bM σ0 F) n k' (lxE (bM σ0 F) n p) = _ from g1]
               have := bal_up (bal_not g2) (show 5 * k' + 4 ≤ 5 * (k' + 1) + 4 by omega)
               first
                 | (rw [if_pos (by omega)] at this; exact ⟨this, MSt_open g3⟩)
                 | (rw [if_neg (by omega)] at this; exact ⟨this, MSt_open g3⟩)
             · rw [show pNot (bM σ0 F) n k' (lxE (bM σ0 F) n p) = _ from g1]; exact MBad_open g2)
      refine x_aload_n 78 C dX12_not_77 rfl rfl rfl ?_
      refine x_getl (j := 30) 81 C rfl (lt79 (by decide)) rfl rfl (by decide) inT12 tb_4_164 rfl dX12_not_78 rfl ?_
      refine x_ldc2 (z := 60) 84 C tb_5_199 dX12_not_81 rfl ?_
      refine x_lcmp 85 C dX12_not_84 rfl (by omega) (by omega) ?_
      refine x_lif_ne 92 88 C dX12_not_85 rfl rfl (fun h85 => ?_) (fun h85 => ?_)
      · refine x_iconst 93 C dX12_not_92 rfl ?_
        exact J93 _ (by omega)
      refine x_iconst 89 C dX12_not_88 rfl ?_
      refine x_goto 93 C dX12_not_89 rfl ?_
      exact J93 _ (by omega)
    first
      | refine x_ifb_ne 77 66 C dX12_not_63 rfl rfl (fun h63 => ?_) (fun h63 => ?_)
      | refine x_if_ne 77 66 C dX12_not_63 rfl rfl (by omega) (fun h63 => ?_) (fun h63 => ?_)
    · exact J77 () (by omega)
    refine x_aload_n 67 C dX12_not_66 rfl rfl rfl ?_
    refine x_bipush 69 C dX12_not_67 rfl rfl ?_
    refine x_callVe 72 C dX12_not_69 rfl (c_X12_isSign hT2 (by omega)) rfl (lt79 (by decide)) rfl tb_5_190 tb_5_192 tb_0_54 tb_1_20 tb_5_193 (na := 1) (by decide +kernel) rfl ⟨by omega, by omega⟩ rfl (Nat.le_of_ble_eq_true rfl) rfl (fun r69 => ?_)
    first
      | refine x_ifb_ne 77 75 C dX12_not_72 rfl rfl (fun h72 => ?_) (fun h72 => ?_)
      | refine x_if_ne 77 75 C dX12_not_72 rfl rfl (by omega) (fun h72 => ?_) (fun h72 => ?_)
    · exact J77 () (by omega)
    refine x_iload_n 76 C dX12_not_75 rfl rfl rfl ?_
    refine x_iret C T dX12_not_76 ?_
    refine PI_i (by omega) ?_
    first
      | (obtain rfl : k = 0 := by omega
         rw [pNot_0 (by omega)]; exact (hq19.1 (by omega)).2)
      | (rw [pNot_n (by omega)]
         rcases hc2 with ⟨p1, L1, g1, g2, g3, g4⟩ | ⟨a, g1, g2, g3⟩
         · rw [pCmp_n g1 (by omega)]; exact ⟨bal_up g2 (by omega), g3⟩
         · rw [pCmp_f g1]; exact g2)
      | (refine hfin _ ?_
         first
           | (rw [if_pos (by omega)]; show _ = (if _ then (1 : Int) else 0); first | (rw [if_pos (by omega)]; done) | (rw [if_neg (by omega)]; done))
           | (rw [if_neg (by omega)]; show _ = (if _ then (1 : Int) else 0); first | (rw [if_pos (by omega)]; done) | (rw [if_neg (by omega)]; done)))
      | (rw [pNot_s (by omega), show s28 51 31 - 1 = u by omega]
         obtain ⟨T3, W3, hT3, ⟨p2, L2, g1, g2, g3, g4⟩ | ⟨a, g1, g2, g3⟩⟩ := PPm_ct hq28
         · rw [show pNot (bM σ0 F) n k' (lxE (bM σ0 F) n p) = _ from g1]
           have := bal_up (bal_not g2) (show 5 * k' + 4 ≤ 5 * (k' + 1) + 4 by omega)
           first
             | (rw [if_pos (by omega)] at this; exact ⟨this, MSt_open g3⟩)
             | (rw [if_neg (by omega)] at this; exact ⟨this, MSt_open g3⟩)
         · rw [show pNot (bM σ0 F) n k' (lxE (bM σ0 F) n p) = _ from g1]; exact MBad_open g2)
  refine x_aload_n 19 C dX12_not_18 rfl rfl rfl ?_
  refine x_callVi 22 C dX12_not_19 rfl (c_X12_opens hS (by omega) (by omega)) rfl (lt79 (by decide)) rfl tb_5_174 tb_5_176 tb_0_50 tb_1_20 tb_5_177 (na := 0) (by decide +kernel) rfl ⟨by omega, by omega⟩ rfl (Nat.le_of_ble_eq_true rfl) rfl (fun z19 s19 hz19 hq19 hR19 => ?_)
  have hz19 : (u = 5 ∧ z19 = 0) ∨ (u ≠ 5 ∧ z19 = 1) := by
    by_cases h : u = 5
    · exact Or.inl ⟨h, (hq19.1 h).1⟩
    · exact Or.inr ⟨h, (hq19.2 h).1⟩
  first
    | refine x_ifb_ne 27 25 C dX12_not_22 rfl rfl (fun h22 => ?_) (fun h22 => ?_)
    | refine x_if_ne 27 25 C dX12_not_22 rfl rfl (by omega) (fun h22 => ?_) (fun h22 => ?_)
  rotate_left
  · refine x_iconst 26 C dX12_not_25 rfl ?_
    refine x_iret C T dX12_not_26 ?_
    refine PI_i (by omega) ?_
    first
      | (obtain rfl : k = 0 := by omega
         rw [pNot_0 (by omega)]; exact (hq19.1 (by omega)).2)
      | (rw [pNot_n (by omega)]
         rcases hc2 with ⟨p1, L1, g1, g2, g3, g4⟩ | ⟨a, g1, g2, g3⟩
         · rw [pCmp_n g1 (by omega)]; exact ⟨bal_up g2 (by omega), g3⟩
         · rw [pCmp_f g1]; exact g2)
      | (refine hfin _ ?_
         first
           | (rw [if_pos (by omega)]; show _ = (if _ then (1 : Int) else 0); first | (rw [if_pos (by omega)]; done) | (rw [if_neg (by omega)]; done))
           | (rw [if_neg (by omega)]; show _ = (if _ then (1 : Int) else 0); first | (rw [if_pos (by omega)]; done) | (rw [if_neg (by omega)]; done)))
      | (rw [pNot_s (by omega), show s28 51 31 - 1 = u by omega]
         obtain ⟨T3, W3, hT3, ⟨p2, L2, g1, g2, g3, g4⟩ | ⟨a, g1, g2, g3⟩⟩ := PPm_ct hq28
         · rw [show pNot (bM σ0 F) n k' (lxE (bM σ0 F) n p) = _ from g1]
           have := bal_up (bal_not g2) (show 5 * k' + 4 ≤ 5 * (k' + 1) + 4 by omega)
           first
             | (rw [if_pos (by omega)] at this; exact ⟨this, MSt_open g3⟩)
             | (rw [if_neg (by omega)] at this; exact ⟨this, MSt_open g3⟩)
         · rw [show pNot (bM σ0 F) n k' (lxE (bM σ0 F) n p) = _ from g1]; exact MBad_open g2)
  have hS2 := (hq19.2 (by omega)).2
  obtain ⟨k', rfl⟩ : ∃ k', k = k' + 1 := ⟨k - 1, by omega⟩
  refine x_aload_n 28 C dX12_not_27 rfl rfl rfl ?_
  refine x_callVi 31 C dX12_not_28 rfl (hN k' rfl σ0 s19 F n _ (u + 1) hS2 (by omega)) rfl (lt79 (by decide)) rfl tb_5_170 tb_5_172 tb_0_49 tb_1_20 tb_5_173 (na := 0) (by decide +kernel) rfl ⟨by omega, by omega⟩ rfl (Nat.le_of_ble_eq_true rfl) rfl (fun z28 s28 hz28 hq28 hR28 => ?_)
  have hu := PPm_u hq28
  refine x_istore_n1 32 C dX12_not_31 rfl rfl ?_
  refine x_aload_n 33 C dX12_not_32 rfl rfl rfl ?_
  refine x_dup 34 C dX12_not_33 rfl rfl ?_
  refine x_geti (j := 31) 37 C rfl (lt79 (by decide)) rfl rfl (by decide) inT12 tb_4_165 rfl dX12_not_34 rfl (fun r34 => ?_)
  refine x_iconst 38 C dX12_not_37 rfl ?_
  refine x_isub 39 C dX12_not_38 rfl ?_
  refine x_puti (j := 31) tyX12 42 C rfl (lt79 (by decide)) rfl rfl (by decide) inT12 tyX12_ok nmX12 tb_4_165 rfl rfl rfl dX12_not_39 rfl (by omega) ?_
  refine x_iload_n 43 C dX12_not_42 rfl rfl rfl ?_
  first
    | refine x_ifb_ne 50 46 C dX12_not_43 rfl rfl (fun h43 => ?_) (fun h43 => ?_)
    | refine x_if_ne 50 46 C dX12_not_43 rfl rfl (by omega) (fun h43 => ?_) (fun h43 => ?_)
  · refine x_iconst 51 C dX12_not_50 rfl ?_
    refine x_iret C T dX12_not_51 ?_
    refine PI_i (by omega) ?_
    first
      | (obtain rfl : k = 0 := by omega
         rw [pNot_0 (by omega)]; exact (hq19.1 (by omega)).2)
      | (rw [pNot_n (by omega)]
         rcases hc2 with ⟨p1, L1, g1, g2, g3, g4⟩ | ⟨a, g1, g2, g3⟩
         · rw [pCmp_n g1 (by omega)]; exact ⟨bal_up g2 (by omega), g3⟩
         · rw [pCmp_f g1]; exact g2)
      | (refine hfin _ ?_
         first
           | (rw [if_pos (by omega)]; show _ = (if _ then (1 : Int) else 0); first | (rw [if_pos (by omega)]; done) | (rw [if_neg (by omega)]; done))
           | (rw [if_neg (by omega)]; show _ = (if _ then (1 : Int) else 0); first | (rw [if_pos (by omega)]; done) | (rw [if_neg (by omega)]; done)))
      | (rw [pNot_s (by omega), show s28 51 31 - 1 = u by omega]
         obtain ⟨T3, W3, hT3, ⟨p2, L2, g1, g2, g3, g4⟩ | ⟨a, g1, g2, g3⟩⟩ := PPm_ct hq28
         · rw [show pNot (bM σ0 F) n k' (lxE (bM σ0 F) n p) = _ from g1]
           have := bal_up (bal_not g2) (show 5 * k' + 4 ≤ 5 * (k' + 1) + 4 by omega)
           first
             | (rw [if_pos (by omega)] at this; exact ⟨this, MSt_open g3⟩)
             | (rw [if_neg (by omega)] at this; exact ⟨this, MSt_open g3⟩)
         · rw [show pNot (bM σ0 F) n k' (lxE (bM σ0 F) n p) = _ from g1]; exact MBad_open g2)
  refine x_iconst 47 C dX12_not_46 rfl ?_
  refine x_goto 51 C dX12_not_47 rfl ?_
  refine x_iret C T dX12_not_51 ?_
  refine PI_i (by omega) ?_
  first
    | (obtain rfl : k = 0 := by omega
       rw [pNot_0 (by omega)]; exact (hq19.1 (by omega)).2)
    | (rw [pNot_n (by omega)]
       rcases hc2 with ⟨p1, L1, g1, g2, g3, g4⟩ | ⟨a, g1, g2, g3⟩
       · rw [pCmp_n g1 (by omega)]; exact ⟨bal_up g2 (by omega), g3⟩
       · rw [pCmp_f g1]; exact g2)
    | (refine hfin _ ?_
       first
         | (rw [if_pos (by omega)]; show _ = (if _ then (1 : Int) else 0); first | (rw [if_pos (by omega)]; done) | (rw [if_neg (by omega)]; done))
         | (rw [if_neg (by omega)]; show _ = (if _ then (1 : Int) else 0); first | (rw [if_pos (by omega)]; done) | (rw [if_neg (by omega)]; done)))
    | (rw [pNot_s (by omega), show s28 51 31 - 1 = u by omega]
       obtain ⟨T3, W3, hT3, ⟨p2, L2, g1, g2, g3, g4⟩ | ⟨a, g1, g2, g3⟩⟩ := PPm_ct hq28
       · rw [show pNot (bM σ0 F) n k' (lxE (bM σ0 F) n p) = _ from g1]
         have := bal_up (bal_not g2) (show 5 * k' + 4 ≤ 5 * (k' + 1) + 4 by omega)
         first
           | (rw [if_pos (by omega)] at this; exact ⟨this, MSt_open g3⟩)
           | (rw [if_neg (by omega)] at this; exact ⟨this, MSt_open g3⟩)
       · rw [show pNot (bM σ0 F) n k' (lxE (bM σ0 F) n p) = _ from g1]; exact MBad_open g2)
