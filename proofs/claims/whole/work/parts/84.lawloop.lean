/-! the same world under other names; text(); the law's loop -/
theorem fL_sg {ρ : Nat → Nat} {σ σ' : Sig} {k : Nat} (h : σ' k = σ k) (h2 : σ' (k + 1000) = σ (k + 1000)) : ∀ (fds : List Nat) (j : Nat), fL ρ σ' k j fds = fL ρ σ k j fds
  | [], _ => rfl
  | x :: t, j => by
    have e : fV ρ σ' k j x = fV ρ σ k j x := by
      match x with
      | 0 => show Value.int (iZ (σ' k j)) = Value.int (iZ (σ k j)); rw [h]
      | 1 => show Value.long (lZ (σ' (k + 1000) j)) = Value.long (lZ (σ (k + 1000) j)); rw [h2]
      | 2 => rfl
      | l + 3 => rfl
    show fV ρ σ' k j x :: fL ρ σ' k (j + 1) t = _
    rw [e, fL_sg h h2 t (j + 1)]
    rfl
theorem cE_sg {dA : Nat → ClassId} {ρ : Nat → Nat} {σ σ' : Sig} {k : Nat} {c : Shc} (h : σ' k = σ k) (h2 : σ' (k + 1000) = σ (k + 1000)) : cE dA ρ σ' k c = cE dA ρ σ k c := by
  unfold cE
  split
  all_goals (first | rfl | (rw [h]; done) | (rw [h2]; done) | rw [fL_sg h h2])
theorem arrV_cg {c : ClassId} {n : Nat} {f g : Nat → Value} (h : ∀ j, j < n → f j = g j) : arrV c n f = arrV c n g := by
  unfold arrV
  have e : (fun j : Fin n => f j.val) = fun j => g j.val := funext fun j => h j.val j.isLt
  rw [e]
theorem vp_cg {c : ClassId} {n : Nat} {f g : Nat → Option Nat} (h : ∀ j, j < n → f j = g j) : vp_cell c (n, .inr (.inr (.inr (.inr f)))) = vp_cell c (n, .inr (.inr (.inr (.inr g)))) := by
  show arrV c n (fun j => va_rf (f j)) = arrV c n (fun j => va_rf (g j))
  exact arrV_cg (fun j hj => by rw [h j hj])
/-- a world that says the same of the same cells -/
theorem P_to {D : va_G} {dA : Nat → ClassId} {N N' : Nat} {ρ ρ' : Nat → Nat} {sh sh' : Nat → Shc} {σ σ' : Sig} {H : Heap} (h : ∀ k, k < N' → ∃ j, j < N ∧ (va_at D vwC (ρ j, cE dA ρ σ j (sh j)) H → va_at D vwC (ρ' k, cE dA ρ' σ' k (sh' k)) H)) (hP : va_P D vwC (mkW dA N ρ sh σ) H) : va_P D vwC (mkW dA N' ρ' sh' σ') H := by
  intro k q hq
  have hk : k < N' := by
    have h1 := (List.getElem?_eq_some_iff.mp hq).1
    rwa [mkW_len] at h1
  rw [mkW_at hk rfl] at hq
  cases hq
  obtain ⟨j, hj, hh⟩ := h k hk
  exact hh (hP j _ (mkW_at hj rfl))
theorem at_R {D : va_G} {dA : Nat → ClassId} {ρ : Nat → Nat} {σ : Sig} {k t n q : Nat} {f g : Nat → Option Nat} {H : Heap} (ht : t < 3) (h : ∀ i, i < n → g i = f i) (hv : va_at D vwC (q, cE dA ρ σ k (cR t n f)) H) : va_at D vwC (q, cE dA ρ σ k (cR t n g)) H := by
  match t, ht with
  | 0, _ =>
    have h1 : H[q]? = some (vp_cell (dA 3) (n, .inr (.inr (.inr (.inr (fun i => (f i).map ρ)))))) := hv
    show H[q]? = some (vp_cell (dA 3) (n, .inr (.inr (.inr (.inr (fun i => (g i).map ρ))))))
    rw [h1]
    exact congrArg some (vp_cg (fun j hj => by rw [h j hj]))
  | 1, _ =>
    have h1 : H[q]? = some (vp_cell (dA 4) (n, .inr (.inr (.inr (.inr (fun i => (f i).map ρ)))))) := hv
    show H[q]? = some (vp_cell (dA 4) (n, .inr (.inr (.inr (.inr (fun i => (g i).map ρ))))))
    rw [h1]
    exact congrArg some (vp_cg (fun j hj => by rw [h j hj]))
  | 2, _ =>
    have h1 : H[q]? = some (vp_cell (dA 5) (n, .inr (.inr (.inr (.inr (fun i => (f i).map ρ)))))) := hv
    show H[q]? = some (vp_cell (dA 5) (n, .inr (.inr (.inr (.inr (fun i => (g i).map ρ))))))
    rw [h1]
    exact congrArg some (vp_cg (fun j hj => by rw [h j hj]))
theorem f21_e : ∀ i, i < 6 → f21 i = some (22 + i) := fun i hi => if_pos hi
theorem f42_e : ∀ i, i < 4 → f42 i = some (43 + i) := fun i hi => if_pos hi
theorem shq_21 {tc : Nat} {cl : Nat → Nat} : shq tc cl 21 = cR 0 6 f21 := rfl
theorem shq_42 {tc : Nat} {cl : Nat → Nat} : shq tc cl 42 = cR 2 4 f42 := rfl
theorem shp_21 {tc : Nat} {cl : Nat → Nat} : shp tc cl 21 = cR 0 6 (fun i => some (22 + i)) := rfl
theorem shp_42 {tc : Nat} {cl : Nat → Nat} : shp tc cl 42 = cR 2 4 (fun i => some (43 + i)) := rfl
theorem row_pq {D : va_G} {dA : Nat → ClassId} {ρ : Nat → Nat} {σ σ' : Sig} {H : Heap} {tc : Nat} {cl : Nat → Nat} {k : Nat} (h : σ' k = σ k) (h2 : σ' (k + 1000) = σ (k + 1000)) (hv : va_at D vwC (ρ k, cE dA ρ σ k (shp tc cl k)) H) : va_at D vwC (ρ k, cE dA ρ σ' k (shq tc cl k)) H := by
  rw [cE_sg h h2]
  by_cases h1 : k = 21
  · subst h1; rw [shq_21]; rw [shp_21] at hv; exact at_R (by decide) f21_e hv
  · by_cases h2 : k = 42
    · subst h2; rw [shq_42]; rw [shp_42] at hv; exact at_R (by decide) f42_e hv
    · rw [shq_o h1 h2]; exact hv
theorem row_qp {D : va_G} {dA : Nat → ClassId} {ρ : Nat → Nat} {σ : Sig} {H : Heap} {tc : Nat} {cl : Nat → Nat} {k : Nat} (hv : va_at D vwC (ρ k, cE dA ρ σ k (shq tc cl k)) H) : va_at D vwC (ρ k, cE dA ρ σ k (shp tc cl k)) H := by
  by_cases h1 : k = 21
  · subst h1; rw [shp_21]; rw [shq_21] at hv; exact at_R (by decide) (fun i hi => (f21_e i hi).symm) hv
  · by_cases h2 : k = 42
    · subst h2; rw [shp_42]; rw [shq_42] at hv; exact at_R (by decide) (fun i hi => (f42_e i hi).symm) hv
    · rw [shq_o h1 h2] at hv; exact hv
section LTEXT
variable {K : Mk} {G : Gt} {ρ ρ0 : Nat → Nat} {X : Nat → RuT} {tc : Nat} {cl : Nat → Nat} {σ : Sig} {b L i ca cb pc : Nat} {xs : Nat → Int32} {lv : List (Option Value)} {st : List Value}
theorem Ex_qz (k : Ex K G (NN tc) ρ (shq tc cl) pc lv st (zz tc σ)) : Ex K G (NN tc) ρ (shp tc cl) pc lv st σ := by
  obtain ⟨p, l, e, R, s, m, args, below, meth, c, cells, slots, Q⟩ := K
  intro hR H locs ls hP hS hl
  refine k (fun r i hr => ?_) H locs ls (P_to (fun k hk => ⟨k, hk, fun hv => row_pq (zz_low (Or.inl hk)) (zz_low (Or.inr ⟨by omega, by omega⟩)) hv⟩) hP) hS hl
  unfold zz
  split
  · omega
  · exact hR r i hr
theorem Ex_pq (k : Ex K G (NN tc) ρ (shp tc cl) pc lv st σ) : Ex K G (NN tc) ρ (shq tc cl) pc lv st σ := by
  obtain ⟨p, l, e, R, s, m, args, below, meth, c, cells, slots, Q⟩ := K
  intro hR H locs ls hP hS hl
  exact k hR H locs ls (P_to (fun k hk => ⟨k, hk, fun hv => row_qp hv⟩) hP) hS hl
theorem Ex_qp (k : Ex K G (NN tc) ρ (shq tc cl) pc lv st σ) : Ex K G (NN tc) ρ (shp tc cl) pc lv st σ := by
  obtain ⟨p, l, e, R, s, m, args, below, meth, c, cells, slots, Q⟩ := K
  intro hR H locs ls hP hS hl
  exact k hR H locs ls (P_to (fun k hk => ⟨k, hk, fun hv => row_pq rfl rfl hv⟩) hP) hS hl
theorem TXc_N {n : Nat} {r : Option Value} {ρ' : Nat → Nat} {N' : Nat} {sh' : Nat → Shc} {σ1 : Sig} (h : TXc σ n tc cl r ρ' N' sh' σ1) : ∃ tc1 cl1 z0, N' = NN tc1 ∧ sh' = shq tc1 cl1 ∧ r = some (.int (iZ z0)) := by
  rcases h with ⟨_, a2, a3, a4, _⟩ | ⟨_, e, _, a3, a4, a5, _⟩ | ⟨_, L1, L2, L3, _, a3, a4, a5, _⟩
  · exact ⟨tc, cl, _, a3, a4, a2⟩
  · exact ⟨tc, cl, _, a4, a5, a3⟩
  · exact ⟨tc + 1, _, _, a4, a5, a3⟩
theorem lc_text (A : AL K G "FirstSeenLaw" code 4 2048 84000 (TL b L xs) 0 ρ0 (NN tc) ρ (shq tc cl) (ca + 3) (cb + 204)) (hR : RR X tc cl σ) (kk : ∀ (K' : Mk) (ρ' : Nat → Nat) (X' : Nat → RuT) (tc' : Nat) (cl' : Nat → Nat) (σ' : Sig), K'.2.1 = K.2.1 → AL K' G "FirstSeenLaw" code 4 2048 84000 (TL b L xs) 0 ρ0 (NN tc') ρ' (shq tc' cl') ca cb → RR X' tc' cl' σ' → Ex K' G (NN tc') ρ' (shp tc' cl') 1210 (LV b ρ' i) [] σ') : Ex K G (NN tc) ρ (shp tc cl) 464 (LV b ρ i) [] σ := by
  refine Ex_qz ?_
  replace hR := RR_zz hR
  obtain ⟨n, p1, p2, p3, p4⟩ := hR.2.2.2.2.1
  refine x_aload_n 465 A.1 dL_law_464 rfl (i := 1) (x := ρ 0) rfl rfl ?_
  refine x_callVA (a := ca) (b := cb) (lvf := fun ρ => LV b ρ i) (stf := fun ρ => []) 468 A dL_law_465 rfl (c_X11_text hR.2.2.2.1.1 hR.1.2.1.1 p1 p3 HZ_zz) rfl (lt79 (by decide)) rfl tb_3_42 tb_3_43 tb_3_44 tb_1_1 tb_3_45 (na := 0) (by decide +kernel) rfl ⟨Nat.le_of_ble_eq_true rfl, Nat.le_of_ble_eq_true rfl⟩ rfl (Nat.le_of_ble_eq_true rfl) rfl (fun ρ' h => ⟨by unfold LV; rw [h 0 (lt79 (by decide)), h 51 (lt79 (by decide))], rfl⟩) (fun K' r ρ' N' sh' σ1 hKl hq hρ hNN A hR1 => ?_)
  obtain ⟨tc1, cl1, z0, rfl, rfl, rfl⟩ := TXc_N hq
  refine Ex_pq ?_
  show Ex K' G (NN tc1) ρ' (shp tc1 cl1) 468 (LV b ρ' i) [.int (iZ z0)] σ1
  have kr := text_row hq
  have hNz : NN tc = 79 + 3 * tc := rfl
  refine x_aload_n 469 A.1 dL_law_468 rfl (i := 2) (x := ρ' 51) rfl rfl ?_
  have h51 : σ1 51 = zz tc σ 51 := kr 51 (by omega) (by omega)
  have h54 : σ1 54 = zz tc σ 54 := kr 54 (by omega) (by omega)
  have h3 := hR.2.2.2.1.2.1
  have h6 := hR.1.2.1.1
  refine x_callV 472 A.1 dL_law_469 rfl (c_X12_text (n := n) (by rw [h51, h3]; omega) (by rw [h51]; exact p2) p3 (fun i hi => by rw [h54]; exact (p4 i hi).2)) rfl (lt79 (by decide)) rfl tb_5_125 tb_5_126 tb_5_127 tb_1_20 tb_5_128 (na := 0) (by decide +kernel) rfl ⟨Nat.le_of_ble_eq_true rfl, Nat.le_of_ble_eq_true rfl⟩ rfl (Nat.le_of_ble_eq_true rfl) rfl (fun r2 σ2 hq2 hR2 => ?_)
  obtain ⟨z', rfl, hz', hm⟩ := hq2
  obtain ⟨e, X', tc2, cl2, eN, es, hRR⟩ := R_text hR p1 hq hm
  have e' : iZ z0 = iZ z' := by
    injection e with e
    injection e
  show Ex K' G (NN tc1) ρ' (shp tc1 cl1) 472 (LV b ρ' i) [.int (iZ z'), .int (iZ z0)] σ2
  rw [e']
  refine xl_same 1210 A.1 dL_law_472 rfl ?_
  have et : tc1 = tc2 := by unfold NN at eN; omega
  subst et
  refine Ex_qp ?_
  rw [es] at A ⊢
  exact Ex_pq (kk K' ρ' X' tc1 cl2 σ2 hKl A hRR)
/-- THE LAW'S LOOP -/
theorem law_loop (hL : L ≤ 3072) : ∀ (n i : Nat) (K : Mk) (ρ : Nat → Nat) (X : Nat → RuT) (tc : Nat) (cl : Nat → Nat) (σ : Sig), i ≤ L → L ≤ i + 6 * n → AL K G "FirstSeenLaw" code 4 2048 84000 (TL b L xs) 0 ρ0 (NN tc) ρ (shq tc cl) (3 * n) (204 * n) → RR X tc cl σ → Ex K G (NN tc) ρ (shp tc cl) 18 (LV b ρ i) [] σ := by
  intro n
  induction n with
  | zero =>
    intro i K ρ X tc cl σ hi hn A hR
    refine x_iload_n 19 A.1 dL_law_18 rfl (i := 3) (x := iZ (i : Int)) rfl rfl ?_
    refine x_aload_n 20 A.1 dL_law_19 rfl (i := 0) (x := b) rfl rfl ?_
    refine xl_len 21 A dL_law_20 rfl ?_
    refine x_bipush 23 A.1 dL_law_21 rfl rfl ?_
    refine x_isub 24 A.1 dL_law_23 rfl ?_
    refine x_icmp_gt 1216 27 A.1 dL_law_24 rfl rfl (by omega) (by omega) (fun _ => ?_) (fun h => absurd h (by omega))
    refine x_iconst 1217 A.1 dL_law_1216 rfl ?_
    exact xl_end A dL_law_1217
  | succ n ih =>
    intro i K ρ X tc cl σ hi hn A hR
    refine x_iload_n 19 A.1 dL_law_18 rfl (i := 3) (x := iZ (i : Int)) rfl rfl ?_
    refine x_aload_n 20 A.1 dL_law_19 rfl (i := 0) (x := b) rfl rfl ?_
    refine xl_len 21 A dL_law_20 rfl ?_
    refine x_bipush 23 A.1 dL_law_21 rfl rfl ?_
    refine x_isub 24 A.1 dL_law_23 rfl ?_
    refine x_icmp_gt 1216 27 A.1 dL_law_24 rfl rfl (by omega) (by omega) (fun _ => ?_) (fun h => ?_)
    · refine x_iconst 1217 A.1 dL_law_1216 rfl ?_
      exact xl_end A dL_law_1217
    · have hi6 : i + 6 ≤ L := by omega
      have A1 : AL K G "FirstSeenLaw" code 4 2048 84000 (TL b L xs) 0 ρ0 (NN tc) ρ (shq tc cl) (3 * n + 3) (204 * n + 204) := A
      have A0 := AL_le (a' := 3 * n) (b' := 204 * n) A (by omega) (by omega)
      have kk : ∀ (K' : Mk) (ρ' : Nat → Nat) (X' : Nat → RuT) (tc' : Nat) (cl' : Nat → Nat) (σ' : Sig), K'.2.1 = K.2.1 → AL K' G "FirstSeenLaw" code 4 2048 84000 (TL b L xs) 0 ρ0 (NN tc') ρ' (shq tc' cl') (3 * n) (204 * n) → RR X' tc' cl' σ' → Ex K' G (NN tc') ρ' (shp tc' cl') 1210 (LV b ρ' i) [] σ' := by
        intro K' ρ' X' tc' cl' σ' _ A' hR'
        refine x_iinc_3 1213 A'.1 dL_law_1210 rfl rfl ?_
        refine x_goto 18 A'.1 dL_law_1213 rfl ?_
        have h := ih (i + 6) K' ρ' X' tc' cl' σ' hi6 (by omega) A' hR'
        unfold LV at h
        rw [show ((i + 6 : Nat) : Int) = (i : Int) + 6 by omega] at h
        exact h
      have k1 : ∀ σ', RR X tc cl σ' → Ex K G (NN tc) ρ (shp tc cl) 1210 (LV b ρ i) [] σ' := fun σ' h => kk K ρ X tc cl σ' rfl A0 h
      refine x_aload_n 28 A.1 dL_law_27 rfl (i := 0) (x := b) rfl rfl ?_
      refine x_iload_n 29 A.1 dL_law_28 rfl (i := 3) (x := iZ (i : Int)) rfl rfl ?_
      refine xl_ld 30 A dL_law_29 rfl (by omega) hL ?_
      refine x_bipush 32 A.1 dL_law_30 rfl rfl ?_
      refine x_iand (iZ (ys xs i) &&& iZ 63).toInt 33 A.1 dL_law_32 rfl (iZ_of _).symm ?_
      refine x_tab 1210 [180, 223, 246, 289, 332, 375, 408, 441, 464, 477, 500, 533, 556, 579, 602, 645, 668, 681, 704, 737, 760, 793, 826, 849, 872, 926, 939, 952, 975, 1018, 1061, 1124, 1177] A.1 dL_law_33 rfl (by decide) (by decide) ⟨Int32.le_toInt _, by have := Int32.toInt_lt (iZ (ys xs i) &&& iZ 63); omega⟩ (fun _ => k1 _ hR) (fun j hj _ => ?_)
      match j, hj with
      | 0, hj => exact lc_town A hR (by omega) hL k1
      | 1, hj => exact lc_high A hR (by omega) hL k1
      | 2, hj => exact lc_thing A hR (by omega) hL k1
      | 3, hj => exact lc_sleeper A hR (by omega) hL k1
      | 4, hj => exact lc_set A hR (by omega) hL k1
      | 5, hj => exact lc_told A hR (by omega) hL k1
      | 6, hj => exact lc_where A hR (by omega) hL k1
      | 7, hj => exact lc_feed A hR (by omega) hL k1
      | 8, hj => exact lc_text A1 hR kk
      | 9, hj => exact lc_force A hR (by omega) hL k1
      | 10, hj => exact lc_seen A hR (by omega) hL k1
      | 11, hj => exact lc_has A hR (by omega) hL k1
      | 12, hj => exact lc_whose A hR (by omega) hL k1
      | 13, hj => exact lc_left A hR (by omega) hL k1
      | 14, hj => exact lc_best A hR (by omega) hL k1
      | 15, hj => exact lc_turn A hR (by omega) hL k1
      | 16, hj => exact lc_rest A hR (by omega) hL k1
      | 17, hj => exact lc_beds A hR (by omega) hL k1
      | 18, hj => exact lc_wall A hR (by omega) hL k1
      | 19, hj => exact lc_fell A hR (by omega) hL k1
      | 20, hj => exact lc_turned A hR (by omega) hL k1
      | 21, hj => exact lc_woke A hR (by omega) hL k1
      | 22, hj => exact lc_judge A hR (by omega) hL k1
      | 23, hj => exact lc_drawn A hR (by omega) hL k1
      | 24, hj => exact lc_chance A hR (by omega) hL k1
      | 25, hj => exact lc_image A hR (by omega) hL k1
      | 26, hj => exact lc_back A hR (by omega) hL k1
      | 27, hj => exact lc_count A hR (by omega) hL k1
      | 28, hj => exact lc_sheet A hR (by omega) hL k1
      | 29, hj => exact lc_cell A hR (by omega) hL k1
      | 30, hj => exact lc_copy A hR (by omega) hL k1
      | 31, hj => exact lc_heights A hR (by omega) hL k1
      | 32, hj => exact lc_taken A hR (by omega) hL k1
      | j + 33, hj => exact absurd hj (by simp)
end LTEXT