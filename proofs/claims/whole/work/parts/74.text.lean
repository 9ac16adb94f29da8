section ROWSN
variable {K : Mk} {G : Gt} {N : Nat} {ρ : Nat → Nat} {sh : Nat → Shc} {own : String} {cc : ByteArray} {nL fr lo : Nat} {pc n : Nat} {lv : List (Option Value)} {st : List Value} {σ : Sig}
theorem x_aload_nN {q : Fin 4} {i : Nat} (n : Nat) (C : Cx K G N ρ own cc nL fr lo) (d : decode cc pc = .ok (.aload_n q, 1)) (hq : (q : Nat) = i) (hi : lv[i]? = some (some .null)) (hn : pc + 1 = n) (k : Ex K G N ρ sh n lv (.null :: st) (σ)) : Ex K G N ρ sh pc lv (st) (σ) := by
  obtain ⟨p, l, e, R, s, m, args, below, meth, c, cells, slots, Q⟩ := K
  obtain ⟨hx, hb, hml, hown, hts, hlk, hK, hI, hO, hfr, hlo, hce, hsl, hN2⟩ := C
  subst hn; intro hR H locs ls hP hS hl
  exact lv_aload_nN hx hb d hq (dn_at hl hi) (k hR H locs ls hP hS hl)
theorem x_astore_n1N {a0 z : Option Value} {t : List (Option Value)} (n : Nat) (C : Cx K G N ρ own cc nL fr lo) (d : decode cc pc = .ok (.astore_n 1, 1)) (hn : pc + 1 = n) (hp : np a0 = true) (k : Ex K G N ρ sh n (a0 :: some .null :: t) (st) (σ)) : Ex K G N ρ sh pc (a0 :: z :: t) (.null :: st) (σ) := by
  obtain ⟨p, l, e, R, s, m, args, below, meth, c, cells, slots, Q⟩ := K
  obtain ⟨hx, hb, hml, hown, hts, hlk, hK, hI, hO, hfr, hlo, hce, hsl, hN2⟩ := C
  subst hn; intro hR H locs ls hP hS hl
  refine lv_astore_nN hx hb d rfl hl (by simp only [List.length_cons]; omega) rfl (fun ls' hl' => k hR H locs ls' hP hS ?_)
  exact dn_set (lv := a0 :: z :: t) (by simpa only [List.length_cons] using hl') rfl (fun j hj => ⟨a0, (by cases (show j = 0 by omega); rfl), hp⟩)
end ROWSN
theorem Ex_sh {K : Mk} {G : Gt} {N : Nat} {ρ : Nat → Nat} {sh sh' : Nat → Shc} {pc : Nat} {lv : List (Option Value)} {st : List Value} {σ : Sig} (h : ∀ k, k < N → sh' k = sh k) (k : Ex K G N ρ sh' pc lv st σ) : Ex K G N ρ sh pc lv st σ := by
  obtain ⟨p, l, e, R, s, m, args, below, meth, c, cells, slots, Q⟩ := K
  intro hR H locs ls hP hS hl
  exact k hR H locs ls (by rw [mkW_sh h]; exact hP) hS hl
theorem AL_shc {K : Mk} {G : Gt} {own : String} {cc : ByteArray} {nL fr lo : Nat} {T : Mk → Prop} {N0 : Nat} {ρ0 : Nat → Nat} {N : Nat} {ρ : Nat → Nat} {sh sh' : Nat → Shc} {a b : Nat} (A : AL K G own cc nL fr lo T N0 ρ0 N ρ sh a b) (h : ∀ k, k < N → sh' k = sh k) : AL K G own cc nL fr lo T N0 ρ0 N ρ sh' a b := ⟨A.1, A.2.1, A.2.2.1, A.2.2.2.1, A.2.2.2.2.1, fun k hk => by rw [h k hk]; exact A.2.2.2.2.2 k hk⟩
theorem sh_X7_at {sh : Nat → Shc} {N t q k : Nat} : sh_X7_init sh N t q k = if k = t then cO 7 [q + 3, 0, 0, N + 3] else if k = N then cA 40 else sh k := by
  unfold sh_X7_init su
  by_cases h1 : k = t
  · simp [h1]
  · by_cases h2 : k = N
    · have h3 : ¬ N = t := fun h => h1 (h2.trans h)
      simp [h2, h3]
    · simp [h1, h2]
theorem shp_low {tc tc' : Nat} {cl cl' : Nat → Nat} : ∀ k, k < 79 → k ≠ 31 → shp tc cl k = shp tc' cl' k
  | 0, _, _ => rfl
  | 1, _, _ => rfl
  | 2, _, _ => rfl
  | 3, _, _ => rfl
  | 4, _, _ => rfl
  | 5, _, _ => rfl
  | 6, _, _ => rfl
  | 7, _, _ => rfl
  | 8, _, _ => rfl
  | 9, _, _ => rfl
  | 10, _, _ => rfl
  | 11, _, _ => rfl
  | 12, _, _ => rfl
  | 13, _, _ => rfl
  | 14, _, _ => rfl
  | 15, _, _ => rfl
  | 16, _, _ => rfl
  | 17, _, _ => rfl
  | 18, _, _ => rfl
  | 19, _, _ => rfl
  | 20, _, _ => rfl
  | 21, _, _ => rfl
  | 22, _, _ => rfl
  | 23, _, _ => rfl
  | 24, _, _ => rfl
  | 25, _, _ => rfl
  | 26, _, _ => rfl
  | 27, _, _ => rfl
  | 28, _, _ => rfl
  | 29, _, _ => rfl
  | 30, _, _ => rfl
  | 32, _, _ => rfl
  | 33, _, _ => rfl
  | 34, _, _ => rfl
  | 35, _, _ => rfl
  | 36, _, _ => rfl
  | 37, _, _ => rfl
  | 38, _, _ => rfl
  | 39, _, _ => rfl
  | 40, _, _ => rfl
  | 41, _, _ => rfl
  | 42, _, _ => rfl
  | 43, _, _ => rfl
  | 44, _, _ => rfl
  | 45, _, _ => rfl
  | 46, _, _ => rfl
  | 47, _, _ => rfl
  | 48, _, _ => rfl
  | 49, _, _ => rfl
  | 50, _, _ => rfl
  | 51, _, _ => rfl
  | 52, _, _ => rfl
  | 53, _, _ => rfl
  | 54, _, _ => rfl
  | 55, _, _ => rfl
  | 56, _, _ => rfl
  | 57, _, _ => rfl
  | 58, _, _ => rfl
  | 59, _, _ => rfl
  | 60, _, _ => rfl
  | 61, _, _ => rfl
  | 62, _, _ => rfl
  | 63, _, _ => rfl
  | 64, _, _ => rfl
  | 65, _, _ => rfl
  | 66, _, _ => rfl
  | 67, _, _ => rfl
  | 68, _, _ => rfl
  | 69, _, _ => rfl
  | 70, _, _ => rfl
  | 71, _, _ => rfl
  | 72, _, _ => rfl
  | 73, _, _ => rfl
  | 74, _, _ => rfl
  | 75, _, _ => rfl
  | 76, _, _ => rfl
  | 77, _, _ => rfl
  | 78, _, _ => rfl
  | 31, _, h => absurd rfl h
  | k + 79, h, _ => absurd h (by omega)
def f21 (i : Nat) : Option Nat := if i < 6 then some (22 + i) else none
def f42 (i : Nat) : Option Nat := if i < 4 then some (43 + i) else none
/-- the cells, where rows of references say nothing behind their end -/
def shq (tc : Nat) (cl : Nat → Nat) : Nat → Shc := su (su (shp tc cl) 21 (cR 0 6 f21)) 42 (cR 2 4 f42)
theorem shq_o {tc : Nat} {cl : Nat → Nat} {k : Nat} (h : k ≠ 21) (h2 : k ≠ 42) : shq tc cl k = shp tc cl k := by unfold shq; rw [su_ne h2, su_ne h]
theorem shq_low {tc tc' : Nat} {cl cl' : Nat → Nat} (k : Nat) (h : k < 79) (h2 : k ≠ 31) : shq tc cl k = shq tc' cl' k := by
  by_cases h21 : k = 21
  · subst h21; rfl
  · by_cases h42 : k = 42
    · subst h42; rfl
    · rw [shq_o h21 h42, shq_o h21 h42]; exact shp_low k h h2
def shT (tc len : Nat) (cl : Nat → Nat) : Nat → Shc := sh_X7_init (su (su (shq tc cl) (NN tc) (cO 7 [2, 0, 0, 2])) (NN tc + 1) (cA len)) (NN tc + 2) (NN tc) (NN tc + 1)
theorem shT_low {tc len k : Nat} {cl : Nat → Nat} (h : k < NN tc) : shT tc len cl k = shq tc cl k := by
  unfold shT
  rw [sh_X7_at, if_neg (by omega), if_neg (by omega), su_ne (by omega), su_ne (by omega)]
theorem shq_next {tc len : Nat} {cl : Nat → Nat} : ∀ k, k < NN tc + 3 → shq (tc + 1) (fun t => if t = tc then len else cl t) k = su (shT tc len cl) 31 (cR 1 6 (va_up (fun i => if i < tc then some (79 + 3 * i) else none) ((tc : Nat) : Int).toNat (some (NN tc)))) k := by
  intro k hk
  have hNN : NN tc = 79 + 3 * tc := rfl
  by_cases h31 : k = 31
  · subst h31
    rw [su_s, shq_o (by decide) (by decide)]
    show cR 1 6 (fun i => if i < tc + 1 then some (79 + 3 * i) else none) = _
    congr 1
    funext i
    unfold va_up
    rw [Int.toNat_natCast]
    by_cases hi : i = tc
    · subst hi; rw [if_pos (by omega), if_pos rfl, hNN]
    · rw [if_neg hi]
      by_cases h2 : i < tc
      · rw [if_pos (by omega)]; exact (if_pos h2).symm
      · rw [if_neg (by omega)]; exact (if_neg h2).symm
  · rw [su_ne h31]
    by_cases hk79 : k < 79
    · rw [shT_low (by omega)]
      exact shq_low k hk79 h31
    · obtain ⟨t, r, hkt, hr⟩ : ∃ t r, k = 79 + 3 * t + r ∧ r < 3 := ⟨(k - 79) / 3, (k - 79) % 3, by omega, by omega⟩
      subst hkt
      rw [shq_o (by omega) (by omega)]
      by_cases ht : t = tc
      · subst ht
        unfold shT
        rw [sh_X7_at]
        match r, hr with
        | 0, _ => rw [if_pos (by omega)]; exact sh_text _
        | 1, _ => rw [if_neg (by omega), if_neg (by omega), show 79 + 3 * t + 1 = NN t + 1 by omega, su_s]; exact (sh_code t).trans (by rw [if_pos rfl])
        | 2, _ => rw [if_neg (by omega), if_pos (by omega)]; exact sh_stack t
      · rw [shT_low (by omega), shq_o (by omega) (by omega)]
        match r, hr with
        | 0, _ => exact (sh_text t).trans (sh_text t).symm
        | 1, _ => exact ((sh_code t).trans (by rw [if_neg ht])).trans (sh_code t).symm
        | 2, _ => exact (sh_stack t).trans (sh_stack t).symm
/-- what text() of the class answers -/
def TXc (σ : Sig) (n tc : Nat) (cl : Nat → Nat) : Option Value → (Nat → Nat) → Nat → (Nat → Shc) → Sig → Prop := fun r _ N' sh' σ' =>
  (tc = 6 ∧ r = some (.int (iZ (-4))) ∧ N' = NN tc ∧ sh' = shq tc cl ∧ σ' = σ) ∨
  (tc < 6 ∧ ∃ a, pText (σ 29) n = .inr a ∧ r = some (.int (iZ (-100 - (a : Int)))) ∧ N' = NN tc ∧ sh' = shq tc cl ∧ (∀ p b, p ≠ 28 → p ≠ 30 → σ' p b = σ p b) ∧ σ' 28 1 = 0) ∨
  (tc < 6 ∧ ∃ L1 L2 L3, pText (σ 29) n = .inl (L1, L2, L3) ∧ r = some (.int (iZ (tc : Int))) ∧ N' = NN (tc + 1) ∧ sh' = shq (tc + 1) (fun t => if t = tc then (L1 ++ L2 ++ L3).length else cl t) ∧ (∀ p b, p ≠ 28 → p ≠ 30 → p ≠ NN tc → p ≠ NN tc + 1 → ¬ (p = 0 ∧ b = 6) → σ' p b = σ p b) ∧ σ' 28 1 = 0 ∧ σ' 0 6 = (tc : Int) + 1 ∧ σ' (NN tc) 1 = (L1.length : Int) ∧ σ' (NN tc) 2 = ((L1.length + L2.length : Nat) : Int) ∧ (∀ i x, (L1 ++ L2 ++ L3)[i]? = some x → σ' (NN tc + 1) i = x) ∧ (L1 ++ L2 ++ L3).length < 160)
theorem Wf_shp0 : ∀ k, k < 79 → k ≠ 31 → Wf1 79 (shq 0 (fun _ => 0) k)
  | 0, _, _ => Wf1_O (by decide)
  | 1, _, _ => Wf1_O (by decide)
  | 2, _, _ => Wf1_A
  | 3, _, _ => Wf1_A
  | 4, _, _ => Wf1_A
  | 5, _, _ => Wf1_A
  | 6, _, _ => Wf1_A
  | 7, _, _ => Wf1_A
  | 8, _, _ => Wf1_A
  | 9, _, _ => Wf1_A
  | 10, _, _ => Wf1_A
  | 11, _, _ => Wf1_O (by decide)
  | 12, _, _ => Wf1_A
  | 13, _, _ => Wf1_A
  | 14, _, _ => Wf1_A
  | 15, _, _ => Wf1_A
  | 16, _, _ => Wf1_A
  | 17, _, _ => Wf1_A
  | 18, _, _ => Wf1_A
  | 19, _, _ => Wf1_A
  | 20, _, _ => Wf1_A
  | 21, _, _ => Wf1_R (f := f21) (fun i l h => by unfold f21 at h; split at h <;> first | (cases h; done) | (rw [Option.some.injEq] at h; omega))
  | 22, _, _ => Wf1_O (by decide)
  | 23, _, _ => Wf1_O (by decide)
  | 24, _, _ => Wf1_O (by decide)
  | 25, _, _ => Wf1_O (by decide)
  | 26, _, _ => Wf1_O (by decide)
  | 27, _, _ => Wf1_O (by decide)
  | 28, _, _ => Wf1_O (by decide)
  | 29, _, _ => Wf1_A
  | 30, _, _ => Wf1_A
  | 32, _, _ => Wf1_O (by decide)
  | 33, _, _ => Wf1_A
  | 34, _, _ => Wf1_A
  | 35, _, _ => Wf1_A
  | 36, _, _ => Wf1_A
  | 37, _, _ => Wf1_A
  | 38, _, _ => Wf1_A
  | 39, _, _ => Wf1_A
  | 40, _, _ => Wf1_A
  | 41, _, _ => Wf1_A
  | 42, _, _ => Wf1_R (f := f42) (fun i l h => by unfold f42 at h; split at h <;> first | (cases h; done) | (rw [Option.some.injEq] at h; omega))
  | 43, _, _ => Wf1_O (by decide)
  | 44, _, _ => Wf1_O (by decide)
  | 45, _, _ => Wf1_O (by decide)
  | 46, _, _ => Wf1_O (by decide)
  | 47, _, _ => Wf1_A
  | 48, _, _ => Wf1_A
  | 49, _, _ => Wf1_A
  | 50, _, _ => Wf1_A
  | 51, _, _ => Wf1_O (by decide)
  | 52, _, _ => Wf1_A
  | 53, _, _ => Wf1_A
  | 54, _, _ => Wf1_A
  | 55, _, _ => Wf1_A
  | 56, _, _ => Wf1_A
  | 57, _, _ => Wf1_A
  | 58, _, _ => Wf1_A
  | 59, _, _ => Wf1_A
  | 60, _, _ => Wf1_A
  | 61, _, _ => Wf1_A
  | 62, _, _ => Wf1_A
  | 63, _, _ => Wf1_A
  | 64, _, _ => Wf1_J
  | 65, _, _ => Wf1_A
  | 66, _, _ => Wf1_A
  | 67, _, _ => Wf1_A
  | 68, _, _ => Wf1_A
  | 69, _, _ => Wf1_A
  | 70, _, _ => Wf1_A
  | 71, _, _ => Wf1_A
  | 72, _, _ => Wf1_A
  | 73, _, _ => Wf1_A
  | 74, _, _ => Wf1_A
  | 75, _, _ => Wf1_Z
  | 76, _, _ => Wf1_A
  | 77, _, _ => Wf1_A
  | 78, _, _ => Wf1_A
  | 31, _, h => absurd rfl h
  | k + 79, h, _ => absurd h (by omega)
theorem Wf_shq {tc : Nat} {cl : Nat → Nat} : Wf (NN tc) (shq tc cl) := by
  intro k hk
  have hNN : NN tc = 79 + 3 * tc := rfl
  by_cases hk79 : k < 79
  · by_cases h31 : k = 31
    · subst h31
      rw [shq_o (by decide) (by decide)]
      refine Wf1_R (f := fun i => if i < tc then some (79 + 3 * i) else none) (fun i l h => ?_)
      by_cases hi : i < tc
      · rw [if_pos hi, Option.some.injEq] at h; omega
      · rw [if_neg hi] at h; cases h
    · refine Wf1_mono (N := 79) ?_ (by omega)
      rw [shq_low (tc' := 0) (cl' := fun _ => 0) k hk79 h31]
      exact Wf_shp0 k hk79 h31
  · obtain ⟨t, r, hkt, hr⟩ : ∃ t r, k = 79 + 3 * t + r ∧ r < 3 := ⟨(k - 79) / 3, (k - 79) % 3, by omega, by omega⟩
    subst hkt
    rw [shq_o (by omega) (by omega)]
    match r, hr with
    | 0, _ => rw [show 79 + 3 * t + 0 = 79 + 3 * t from rfl, sh_text]; exact Wf1_O (fun x hx => by simp only [List.mem_cons, List.not_mem_nil, or_false] at hx; omega)
    | 1, _ => rw [sh_code]; exact Wf1_A
    | 2, _ => rw [sh_stack]; exact Wf1_A
set_option maxHeartbeats 4000000 in
set_option maxRecDepth 100000 in
theorem c_X11_text {l : Launch} {G : Gt} {ρ : Nat → Nat} {tc : Nat} {cl : Nat → Nat} {σ : Sig} {n : Nat} (h06 : σ 0 6 = (tc : Int)) (htc : tc ≤ 6) (h28 : σ 28 1 = (n : Int)) (hn : n ≤ 160) (hz : HZ (NN tc) σ) : MXA l yX11_text cX11_text 3 (some .int) 52 1250 3 204 G (NN tc) ρ (shq tc cl) [.ref (ρ 0)] σ (TXc σ n tc cl) := by
  refine MXA_of [some (.ref (ρ 0)), none, none] Wf_shq (by decide +kernel) rfl rfl (Nat.le_of_ble_eq_true rfl) ?_
  intro K hKl A hci hRng
  subst hKl
  have C := A.1
  have hNN : NN tc = 79 + 3 * tc := rfl
  refine x_aload_n 1 C dX11_text_0 rfl rfl rfl ?_
  refine x_geti (j := 6) 4 C rfl (lt79 (by decide)) rfl rfl (by decide) inT11 tb_2_179 rfl dX11_text_1 rfl (fun r1 => ?_)
  refine x_bipush 6 C dX11_text_4 rfl rfl ?_
  refine x_icmp_lt 12 9 C dX11_text_6 rfl rfl (by omega) (by omega) (fun h6 => ?_) (fun h6 => ?_)
  rotate_left
  · refine x_bipush 11 C dX11_text_9 rfl rfl ?_
    exact x_iretA A dX11_text_11 (Or.inl ⟨by omega, rfl, rfl, rfl, rfl⟩)--END
  refine x_aload_n 13 C dX11_text_12 rfl rfl rfl ?_
  refine x_getr (j := 4) 16 C rfl (lt79 (by decide)) rfl rfl (by decide) inT11 tb_2_177 rfl dX11_text_13 rfl ?_
  have hNN : NN tc = 79 + 3 * tc := rfl
  refine x_callVA (a := 0) (b := 0) (lvf := fun ρ => [some (.ref (ρ 0)), none, none]) (stf := fun _ => []) 19 A dX11_text_16 rfl (c_X5_read (n := n) Wf_shq h28 hn (by omega) hz ⟨by omega, rfl, rfl, rfl⟩) (show shq tc cl 28 = cO 5 [32, 0, 0, 0, 0, 0, 33, 0] from rfl) (by omega) rfl tb_1_233 tb_1_234 tb_1_235 tb_1_9 tb_1_236 (by decide +kernel) (na := 0) rfl ⟨by decide, by decide⟩ rfl (Nat.le_of_ble_eq_true rfl) rfl (fun ρ' h => ⟨by simp only [h 0 (by omega)], rfl⟩) (fun K r ρ N' sh' s16 hKl hq hρ hNN2 A hR1 => ?_)
  unfold RDp at hq
  cases hpt : pText (σ 29) n with
  | inr a =>
    rw [hpt] at hq
    obtain ⟨rfl, rfl, rfl, k4, k5⟩ := hq
    show Ex K G (NN tc) ρ (shq tc cl) 19 [some (.ref (ρ 0)), none, none] [.null] s16
    refine x_astore_n1N 20 A.1 dX11_text_19 rfl rfl ?_
    refine x_aload_n 21 A.1 dX11_text_20 rfl rfl rfl ?_
    refine x_getr (j := 4) 24 A.1 rfl (by omega) rfl rfl (by decide) inT11 tb_2_177 rfl dX11_text_21 rfl ?_
    refine x_iconst 25 A.1 dX11_text_24 rfl ?_
    refine x_puti (j := 1) tyX5 28 A.1 rfl (by omega) rfl rfl (by decide) inT5 tyX5_ok nmX5 tb_1_152 rfl rfl rfl dX11_text_25 rfl (by omega) ?_
    refine x_aload_nN 29 A.1 dX11_text_28 rfl rfl rfl ?_
    refine x_ifnnN 32 A.1 dX11_text_29 rfl ?_
    refine x_bipush 34 A.1 dX11_text_32 rfl rfl ?_
    refine x_aload_n 35 A.1 dX11_text_34 rfl rfl rfl ?_
    refine x_getr (j := 4) 38 A.1 rfl (by omega) rfl rfl (by decide) inT11 tb_2_177 rfl dX11_text_35 rfl ?_
    refine x_geti (j := 2) 41 A.1 rfl (by omega) rfl rfl (by decide) inT5 tb_1_154 rfl dX11_text_38 rfl (fun r38 => ?_)
    refine x_isub 42 A.1 dX11_text_41 rfl ?_
    rw [show (up s16 28 1 0) 28 2 = (a : Int) by rw [up_i (by decide)]; exact k5]
    exact x_iretA A dX11_text_42 (Or.inr (Or.inl ⟨by omega, a, hpt, rfl, rfl, rfl, fun p b h1 h2 => by rw [up_r h1]; exact k4.1 p b h1 h2, up_s⟩))
  | inl x =>
    obtain ⟨L1, L2, L3⟩ := x
    rw [hpt] at hq
    obtain ⟨rfl, rfl, hsh, k4, k5, k6, k7, k8, k9⟩ := hq
    rw [show sh' = shT tc (L1 ++ L2 ++ L3).length cl from hsh] at A ⊢
    have hsT : (shT tc (L1 ++ L2 ++ L3).length cl) (NN tc) = cO 7 [NN tc + 1 + 3, 0, 0, NN tc + 2 + 3] := by unfold shT; rw [sh_X7_at, if_pos rfl]
    show Ex K G (NN tc + 3) ρ (shT tc (L1 ++ L2 ++ L3).length cl) 19 [some (.ref (ρ 0)), none, none] [.ref (ρ (NN tc))] s16
    refine x_astore_n1 20 A.1 dX11_text_19 rfl rfl ?_
    refine x_aload_n 21 A.1 dX11_text_20 rfl rfl rfl ?_
    refine x_getr (j := 4) 24 A.1 ((shT_low (by omega)).trans rfl) (by omega) rfl rfl (by decide) inT11 tb_2_177 rfl dX11_text_21 rfl ?_
    refine x_iconst 25 A.1 dX11_text_24 rfl ?_
    refine x_puti (j := 1) tyX5 28 A.1 ((shT_low (by omega)).trans rfl) (by omega) rfl rfl (by decide) inT5 tyX5_ok nmX5 tb_1_152 rfl rfl rfl dX11_text_25 rfl (by omega) ?_
    refine x_aload_n 29 A.1 dX11_text_28 rfl rfl rfl ?_
    refine x_ifnnR 43 A.1 dX11_text_29 rfl ?_
    refine x_aload_n 44 A.1 dX11_text_43 rfl rfl rfl ?_
    refine x_geti (j := 6) 47 A.1 ((shT_low (by omega)).trans rfl) (by omega) rfl rfl (by decide) inT11 tb_2_179 rfl dX11_text_44 rfl (fun r44 => ?_)
    rw [show (up s16 28 1 0) 0 6 = (tc : Int) by rw [up_r (by decide), k4 0 (by decide) (by decide) (by omega) (by omega)]; exact h06]
    refine x_istore_n2 48 A.1 dX11_text_47 rfl rfl ?_
    refine x_aload_n 49 A.1 dX11_text_48 rfl rfl rfl ?_
    refine x_getr (j := 5) 52 A.1 ((shT_low (by omega)).trans rfl) (by omega) rfl rfl (by decide) inT11 tb_2_178 rfl dX11_text_49 rfl ?_
    refine x_iload_n 53 A.1 dX11_text_52 rfl rfl rfl ?_
    refine x_aload_n 54 A.1 dX11_text_53 rfl rfl rfl ?_
    refine x_aast1 (i := (tc : Int)) 55 A.1 ((shT_low (by omega)).trans rfl) (by omega) hsT (by omega) rfl rfl (by omega) (by decide) dX11_text_54 rfl ?_
    replace A := AL_sh (k := 31) (c := cR 1 6 (va_up (fun i => if i < tc then some (79 + 3 * i) else none) ((tc : Nat) : Int).toNat (some (NN tc)))) A (Wf1_R (fun q l h => by
        unfold va_up at h
        by_cases hq : q = ((tc : Nat) : Int).toNat
        · rw [if_pos hq, Option.some.injEq] at h; omega
        · rw [if_neg hq] at h
          have h : (if q < tc then some (79 + 3 * q) else none) = some l := h
          by_cases hq2 : q < tc
          · rw [if_pos hq2, Option.some.injEq] at h; omega
          · rw [if_neg hq2] at h; cases h))
    refine Ex_sh shq_next ?_
    replace A := AL_shc A shq_next
    refine x_aload_n 56 A.1 dX11_text_55 rfl rfl rfl ?_
    refine x_iload_n 57 A.1 dX11_text_56 rfl rfl rfl ?_
    refine x_iconst 58 A.1 dX11_text_57 rfl ?_
    refine x_iadd 59 A.1 dX11_text_58 rfl ?_
    refine x_puti (j := 6) tyX11 62 A.1 rfl (by omega) rfl rfl (by decide) inT11 tyX11_ok nmX11 tb_2_179 rfl rfl rfl dX11_text_59 rfl (by omega) ?_
    refine x_iload_n 63 A.1 dX11_text_62 rfl rfl rfl ?_
    refine x_iretA A dX11_text_63 (Or.inr (Or.inr ⟨by omega, L1, L2, L3, hpt, rfl, rfl, rfl, fun p b h1 h2 h3 h4 h5 => ?_, ?_, up_s, ?_, ?_, fun i x hi => ?_, k9⟩))
    · rw [up_at2, if_neg h5, up_r h1]
      exact congrFun (k4 p h1 h2 h3 h4) b
    · rw [up_r (by decide), up_s]
    · rw [up_r (by omega), up_r (by omega)]; exact k6
    · rw [up_r (by omega), up_r (by omega)]; exact k7
    · rw [up_r (by omega), up_r (by omega)]; exact k8 i x hi--END
