/-! the order of waking, and who has what, by the class -/
theorem sh1 : ∀ t : Nat, t < 6 → (iZ 1 <<< (iZ (t : Int) &&& 31)) = iZ ((2 ^ t : Nat) : Int) := by decide +kernel
theorem and1 : ∀ g : Nat, g < 64 → ∀ t : Nat, t < 6 → (iZ (g : Int) &&& iZ ((2 ^ t : Nat) : Int)) = iZ (if g.testBit t then ((2 ^ t : Nat) : Int) else 0) := by decide +kernel
theorem or1 : ∀ g : Nat, g < 64 → ∀ t : Nat, t < 6 → (iZ (g : Int) ||| iZ ((2 ^ t : Nat) : Int)) = iZ ((g ||| 2 ^ t : Nat) : Int) := by decide +kernel
theorem or0 : ∀ g : Nat, g < 64 → (iZ (g : Int) ||| iZ 0) = iZ (g : Int) := by decide +kernel
theorem or_lt : ∀ g : Nat, g < 64 → ∀ t : Nat, t < 6 → g ||| 2 ^ t < 64 := by decide +kernel
theorem pw_pos : ∀ t : Nat, t < 6 → ((2 ^ t : Nat) : Int) ≠ 0 ∧ 0 ≤ ((2 ^ t : Nat) : Int) ∧ ((2 ^ t : Nat) : Int) ≤ 32 := by decide +kernel
/-- a stack of sleepers in a row, from the place k on -/
def SKa (f : Nat → Int) (k : Nat) : List Nat → Prop
  | [] => True
  | x :: q => f (k + q.length) = (x : Int) ∧ SKa f k q
theorem SKa_ext {f g : Nat → Int} {k : Nat} : ∀ (st : List Nat), (∀ j, k ≤ j → j < k + st.length → g j = f j) → SKa f k st → SKa g k st
  | [], _, _ => trivial
  | x :: q, h, ⟨h1, h2⟩ => ⟨by rw [h (k + q.length) (by omega) (by simp)]; exact h1, SKa_ext q (fun j a b => h j a (by simp only [List.length_cons]; omega)) h2⟩
theorem SKa_app {f : Nat → Int} {s : Nat} {q : List Nat} (hq : SKa f 0 q) (hs : f q.length = (s : Int)) : ∀ p : List Nat, SKa f (q.length + 1) p → SKa f 0 (p ++ s :: q)
  | [], _ => ⟨by rw [Nat.zero_add]; exact hs, hq⟩
  | x :: p, ⟨h1, h2⟩ => ⟨by show f (0 + (p ++ s :: q).length) = _; rw [← h1, show 0 + (p ++ s :: q).length = q.length + 1 + p.length by simp only [List.length_append, List.length_cons]; omega], SKa_app hq hs p h2⟩
theorem SKa_last {f : Nat → Int} {k e : Nat} (he : f k = (e : Int)) : ∀ p : List Nat, SKa f (k + 1) p → SKa f k (p ++ [e])
  | [], _ => ⟨he, trivial⟩
  | x :: p, ⟨h1, h2⟩ => ⟨by show f (k + (p ++ [e]).length) = _; rw [← h1, show k + (p ++ [e]).length = k + 1 + p.length by simp only [List.length_append, List.length_cons, List.length_nil]; omega], SKa_last he p h2⟩
theorem SKa_get {f : Nat → Int} : ∀ (L : List Nat), SKa f 0 L → ∀ i, i < L.length → f i = ((L.reverse.getD i 0 : Nat) : Int)
  | [], _, i, h => by simp at h
  | x :: q, ⟨h1, h2⟩, i, h => by
    rw [List.reverse_cons]
    by_cases hi : i = q.length
    · subst hi
      rw [Nat.zero_add] at h1
      rw [h1, List.getD_eq_getElem?_getD, List.getElem?_append_right (by simp)]
      simp
    · simp only [List.length_cons] at h
      rw [SKa_get q h2 i (by omega), List.getD_eq_getElem?_getD, List.getD_eq_getElem?_getD, List.getElem?_append_left (by simp; omega)]
theorem insR_app {T : Sig} {s : Nat} {q : List Nat} : ∀ p : List Nat, (∀ e, e ∈ p → bef T s e) → insR T s (p ++ q) = p ++ insR T s q
  | [], _ => rfl
  | e :: p, h => by
    show (if bef T s e then e :: insR T s (p ++ q) else _) = _
    rw [if_pos (h e List.mem_cons_self), insR_app p (fun x hx => h x (List.mem_cons_of_mem _ hx))]
    rfl
theorem bef_T {σ : Sig} {s e : Nat} (hs : (s : Int) < σ 1 8) (he : e < s) : bef (cT σ) s e ↔ (σ 9 s < σ 9 e ∨ (σ 9 s = σ 9 e ∧ σ 10 e < σ 10 s)) := by
  unfold bef
  rw [cT_10 hs, cT_10 (show ((e : Nat) : Int) < σ 1 8 by omega)]
  show (σ 9 s < σ 9 e ∨ (σ 9 s = σ 9 e ∧ (σ 10 e < σ 10 s ∨ (σ 10 s = σ 10 e ∧ s < e)))) ↔ _
  omega
set_option maxHeartbeats 4000000 in
set_option maxRecDepth 100000 in
theorem c_X3_wakesBefore {l : Launch} {G : Gt} {ρ : Nat → Nat} {tc : Nat} {cl : Nat → Nat} {σ : Sig} {a b : Nat} (hT : TI σ) (ha : (a : Int) < σ 1 8) (hb : (b : Int) < σ 1 8) : MX l yX3_wakesBefore cX3_wakesBefore 3 (some .boolean) 0 0 G (NN tc) ρ (shp tc cl) [.ref (ρ 32), .int (iZ (a : Int)), .int (iZ (b : Int))] σ (PE σ (b2 (σ 9 a < σ 9 b ∨ (σ 9 a = σ 9 b ∧ σ 10 b < σ 10 a)))) := by
  refine MX_of [some (.ref (ρ 32)), some (.int (iZ (a : Int))), some (.int (iZ (b : Int)))] (by decide +kernel) rfl rfl (Nat.le_of_ble_eq_true rfl) ?_
  intro K hKl C T hRng
  subst hKl
  have h8 := hT.2.2.2.1
  have haa : (a : Int).toNat = a := Int.toNat_natCast a
  have hbb : (b : Int).toNat = b := Int.toNat_natCast b
  refine x_aload_n 1 C dX3_wakesBefore_0 rfl rfl rfl ?_
  refine x_getr (j := 0) 4 C rfl (lt79 (by decide)) rfl rfl (by decide) inT3 tb_2_107 rfl dX3_wakesBefore_1 rfl ?_
  refine x_getr (j := 11) 7 C rfl (lt79 (by decide)) rfl rfl (by decide) inT9 tb_1_69 rfl dX3_wakesBefore_4 rfl ?_
  refine x_iload_n 8 C dX3_wakesBefore_7 rfl rfl rfl ?_
  refine x_iald 9 C rfl (lt79 (by decide)) dX3_wakesBefore_8 rfl (by omega) (by omega) (fun r8 => ?_)
  rw [haa] at r8 ⊢
  refine x_aload_n 10 C dX3_wakesBefore_9 rfl rfl rfl ?_
  refine x_getr (j := 0) 13 C rfl (lt79 (by decide)) rfl rfl (by decide) inT3 tb_2_107 rfl dX3_wakesBefore_10 rfl ?_
  refine x_getr (j := 11) 16 C rfl (lt79 (by decide)) rfl rfl (by decide) inT9 tb_1_69 rfl dX3_wakesBefore_13 rfl ?_
  refine x_iload_n 17 C dX3_wakesBefore_16 rfl rfl rfl ?_
  refine x_iald 18 C rfl (lt79 (by decide)) dX3_wakesBefore_17 rfl (by omega) (by omega) (fun r17 => ?_)
  rw [hbb] at r17 ⊢
  refine x_icmp_eq 48 21 C dX3_wakesBefore_18 rfl rfl (by omega) (by omega) (fun h18 => ?_) (fun h18 => ?_)
  · refine x_aload_n 49 C dX3_wakesBefore_48 rfl rfl rfl ?_
    refine x_getr (j := 0) 52 C rfl (lt79 (by decide)) rfl rfl (by decide) inT3 tb_2_107 rfl dX3_wakesBefore_49 rfl ?_
    refine x_getr (j := 12) 55 C rfl (lt79 (by decide)) rfl rfl (by decide) inT9 tb_1_73 rfl dX3_wakesBefore_52 rfl ?_
    refine x_iload_n 56 C dX3_wakesBefore_55 rfl rfl rfl ?_
    refine x_iald 57 C rfl (lt79 (by decide)) dX3_wakesBefore_56 rfl (by omega) (by omega) (fun r56 => ?_)
    refine x_aload_n 58 C dX3_wakesBefore_57 rfl rfl rfl ?_
    refine x_getr (j := 0) 61 C rfl (lt79 (by decide)) rfl rfl (by decide) inT3 tb_2_107 rfl dX3_wakesBefore_58 rfl ?_
    refine x_getr (j := 12) 64 C rfl (lt79 (by decide)) rfl rfl (by decide) inT9 tb_1_73 rfl dX3_wakesBefore_61 rfl ?_
    refine x_iload_n 65 C dX3_wakesBefore_64 rfl rfl rfl ?_
    refine x_iald 66 C rfl (lt79 (by decide)) dX3_wakesBefore_65 rfl (by omega) (by omega) (fun r65 => ?_)
    refine x_icmp_le 73 69 C dX3_wakesBefore_66 rfl rfl (by omega) (by omega) (fun h66 => ?_) (fun h66 => ?_)
    · refine x_iconst 74 C dX3_wakesBefore_73 rfl ?_
      refine x_zret C T dX3_wakesBefore_74 (by omega) ?_
      simp only [haa, hbb] at *
      exact PE_i (by unfold b2; split <;> omega) (by omega)
    refine x_iconst 70 C dX3_wakesBefore_69 rfl ?_
    refine x_goto 74 C dX3_wakesBefore_70 rfl ?_
    refine x_zret C T dX3_wakesBefore_74 (by omega) ?_
    simp only [haa, hbb] at *
    exact PE_i (by unfold b2; split <;> omega) (by omega)
  refine x_aload_n 22 C dX3_wakesBefore_21 rfl rfl rfl ?_
  refine x_getr (j := 0) 25 C rfl (lt79 (by decide)) rfl rfl (by decide) inT3 tb_2_107 rfl dX3_wakesBefore_22 rfl ?_
  refine x_getr (j := 11) 28 C rfl (lt79 (by decide)) rfl rfl (by decide) inT9 tb_1_69 rfl dX3_wakesBefore_25 rfl ?_
  refine x_iload_n 29 C dX3_wakesBefore_28 rfl rfl rfl ?_
  skip
  refine x_iald 30 C rfl (lt79 (by decide)) dX3_wakesBefore_29 rfl (by omega) (by omega) (fun r29 => ?_)
  skip
  refine x_aload_n 31 C dX3_wakesBefore_30 rfl rfl rfl ?_
  refine x_getr (j := 0) 34 C rfl (lt79 (by decide)) rfl rfl (by decide) inT3 tb_2_107 rfl dX3_wakesBefore_31 rfl ?_
  refine x_getr (j := 11) 37 C rfl (lt79 (by decide)) rfl rfl (by decide) inT9 tb_1_69 rfl dX3_wakesBefore_34 rfl ?_
  refine x_iload_n 38 C dX3_wakesBefore_37 rfl rfl rfl ?_
  refine x_iald 39 C rfl (lt79 (by decide)) dX3_wakesBefore_38 rfl (by omega) (by omega) (fun r38 => ?_)
  refine x_icmp_ge 46 42 C dX3_wakesBefore_39 rfl rfl (by omega) (by omega) (fun h39 => ?_) (fun h39 => ?_)
  · refine x_iconst 47 C dX3_wakesBefore_46 rfl ?_
    refine x_zret C T dX3_wakesBefore_47 (by omega) ?_
    simp only [haa, hbb] at *
    exact PE_i (by unfold b2; split <;> omega) (by omega)
  refine x_iconst 43 C dX3_wakesBefore_42 rfl ?_
  refine x_goto 47 C dX3_wakesBefore_43 rfl ?_
  refine x_zret C T dX3_wakesBefore_47 (by omega) ?_
  simp only [haa, hbb] at *
  exact PE_i (by unfold b2; split <;> omega) (by omega)

set_option maxHeartbeats 4000000 in
set_option maxRecDepth 100000 in
theorem c_X3_sortSleepers {l : Launch} {G : Gt} {ρ : Nat → Nat} {tc : Nat} {cl : Nat → Nat} {σ : Sig} (hT : TI σ) : MX l yX3_sortSleepers cX3_sortSleepers 3 none 1 22 G (NN tc) ρ (shp tc cl) [.ref (ρ 32)] σ (PV (fun σ' => Kp 39 39 σ σ' ∧ ∀ i : Nat, (i : Int) < σ 1 8 → σ' 39 i = (ordN (cT σ) i : Int))) := by
  refine MX_of [some (.ref (ρ 32)), none, none] (by decide +kernel) rfl rfl (Nat.le_of_ble_eq_true rfl) ?_
  intro K hKl C T hRng
  subst hKl
  have h8 := hT.2.2.2.1
  refine x_iconst 1 C dX3_sortSleepers_0 rfl ?_
  refine x_istore_n1 2 C dX3_sortSleepers_1 rfl rfl ?_
  have L2 : ∀ (mz : Nat) (s : Nat) (y : Int) (s1 : Sig) (x2 : Option Value), mz = 6 - s → ((s : Int) ≤ σ 1 8 ∧ y = s ∧ Kp 39 39 σ s1 ∧ SKa (s1 39) 0 (ordR (cT σ) s)) → Ex K G (NN tc) ρ (shp tc cl) 2 [some (.ref (ρ 32)), some (.int (iZ y)), x2] [] s1 := by
    intro mz
    induction mz using Nat.strongRecOn with
    | ind mz ih =>
      intro s y s1 x2 hmz hinv
      have ihs := ih
      obtain ⟨hs, rfl, hK1, hSK⟩ := hinv
      have e18 : s1 1 8 = σ 1 8 := congrFun (hK1 1 (by omega) (by omega)) 8
      have hlen := ordR_len (cT σ) s
      refine x_iload_n 3 C dX3_sortSleepers_2 rfl rfl rfl ?_
      refine x_aload_n 4 C dX3_sortSleepers_3 rfl rfl rfl ?_
      refine x_getr (j := 0) 7 C rfl (lt79 (by decide)) rfl rfl (by decide) inT3 tb_2_107 rfl dX3_sortSleepers_4 rfl ?_
      refine x_geti (j := 8) 10 C rfl (lt79 (by decide)) rfl rfl (by decide) inT9 tb_1_59 rfl dX3_sortSleepers_7 rfl (fun r7 => ?_)
      refine x_icmp_ge 68 13 C dX3_sortSleepers_10 rfl rfl (by omega) (by omega) (fun h10 => ?_) (fun h10 => ?_)
      · refine x_vret C T dX3_sortSleepers_68 ?_
        refine PV_i ⟨hK1, fun i hi => ?_⟩
        have hsn : s = slN (cT σ) := by show s = (σ 1 8).toNat; omega
        rw [SKa_get _ hSK i (by rw [hlen]; omega), hsn]
        rfl
      refine x_iload_n 14 C dX3_sortSleepers_13 rfl rfl rfl ?_
      refine x_istore_n2 15 C dX3_sortSleepers_14 rfl rfl ?_
      have L15 : ∀ (mz : Nat) (q p : List Nat) (y : Int) (s2 : Sig), mz = q.length → (y = (q.length : Int) ∧ Kp 39 39 σ s2 ∧ ordR (cT σ) s = p ++ q ∧ (∀ e, e ∈ p → bef (cT σ) s e) ∧ SKa (s2 39) 0 q ∧ SKa (s2 39) (q.length + 1) p) → Ex K G (NN tc) ρ (shp tc cl) 15 [some (.ref (ρ 32)), some (.int (iZ (s : Int))), some (.int (iZ y))] [] s2 := by
        intro mz
        induction mz using Nat.strongRecOn with
        | ind mz ih =>
          intro q p y s2 hmz hinv
          obtain ⟨rfl, hK2, hpq, hbp, hq2, hp2⟩ := hinv
          have hlpq : p.length + q.length = s := by rw [← hlen, hpq, List.length_append]
          have hT2 : TI s2 := Kp_TI hK2 (by omega) hT
          have e9 : s2 9 = σ 9 := hK2 9 (by omega) (by omega)
          have e10 : s2 10 = σ 10 := hK2 10 (by omega) (by omega)
          have e182 : s2 1 8 = σ 1 8 := congrFun (hK2 1 (by omega) (by omega)) 8
          refine x_iload_n 16 C dX3_sortSleepers_15 rfl rfl rfl ?_
          have J55 : ∀ (u : Unit), (insR (cT σ) s q = s :: q) → Ex K G (NN tc) ρ (shp tc cl) 55 [some (.ref (ρ 32)), some (.int (iZ (s : Int))), some (.int (iZ (q.length : Int)))] [] s2 := by
            intro u hinv
            have hnext := hinv
            refine x_aload_n 56 C dX3_sortSleepers_55 rfl rfl rfl ?_
            refine x_getr (j := 9) 59 C rfl (lt79 (by decide)) rfl rfl (by decide) inT3 tb_2_116 rfl dX3_sortSleepers_56 rfl ?_
            refine x_iload_n 60 C dX3_sortSleepers_59 rfl rfl rfl ?_
            refine x_iload_n 61 C dX3_sortSleepers_60 rfl rfl rfl ?_
            refine x_iast 62 C rfl (lt79 (by decide)) dX3_sortSleepers_61 rfl (by omega) (by omega) (by omega) ?_
            refine x_iinc_1 65 C dX3_sortSleepers_62 rfl rfl ?_
            refine x_goto 2 C dX3_sortSleepers_65 rfl ?_
            refine ihs _ (by omega) (s + 1) _ _ _ rfl ⟨by omega, by omega, Kp_up hK2 (by omega), ?_⟩
            rw [show (q.length : Int).toNat = q.length from Int.toNat_natCast _]
            have hin : insR (cT σ) s (ordR (cT σ) s) = p ++ s :: q := by
              rw [hpq, insR_app p hbp, hnext]
            show SKa (up s2 39 q.length (s : Int) 39) 0 (insR (cT σ) s (ordR (cT σ) s))
            rw [hin]
            refine SKa_app (SKa_ext q (fun j a b => by rw [up_i (by omega)]) hq2) up_s p (SKa_ext p (fun j a b => by rw [up_i (by omega)]) hp2)
          refine x_if_le 55 19 C dX3_sortSleepers_16 rfl rfl (by omega) (fun h16 => ?_) (fun h16 => ?_)
          · have hq0 : q = [] := by
              cases q with
              | nil => rfl
              | cons e q' => simp only [List.length_cons] at h16; omega
            have hstop : insR (cT σ) s q = s :: q := by rw [hq0]; rfl
            exact J55 () hstop
          obtain ⟨e, q', rfl⟩ : ∃ e q', q = e :: q' := by
            cases q with
            | nil => simp at h16
            | cons e q' => exact ⟨e, q', rfl⟩
          have hem : e ∈ ordR (cT σ) s := by rw [hpq]; simp
          have hes := (ordR_mem (cT σ) e s).mp hem
          have hlq : (((e :: q').length : Nat) : Int) = (q'.length : Int) + 1 := by simp
          have hix0 : ((((e :: q').length : Nat) : Int) - 1).toNat = q'.length := by omega
          have hix1 : ((((e :: q').length : Nat) : Int)).toNat = q'.length + 1 := by omega
          have hee : s2 39 q'.length = (e : Int) := by have := hq2.1; rwa [Nat.zero_add] at this
          refine x_aload_n 20 C dX3_sortSleepers_19 rfl rfl rfl ?_
          refine x_iload_n 21 C dX3_sortSleepers_20 rfl rfl rfl ?_
          refine x_aload_n 22 C dX3_sortSleepers_21 rfl rfl rfl ?_
          refine x_getr (j := 9) 25 C rfl (lt79 (by decide)) rfl rfl (by decide) inT3 tb_2_116 rfl dX3_sortSleepers_22 rfl ?_
          refine x_iload_n 26 C dX3_sortSleepers_25 rfl rfl rfl ?_
          refine x_iconst 27 C dX3_sortSleepers_26 rfl ?_
          refine x_isub 28 C dX3_sortSleepers_27 rfl ?_
          refine x_iald 29 C rfl (lt79 (by decide)) dX3_sortSleepers_28 rfl (by omega) (by omega) (fun r28 => ?_)
          rw [hix0, hee] at r28 ⊢
          refine x_callVe 32 C dX3_sortSleepers_29 rfl (c_X3_wakesBefore (a := s) (b := e) hT2 (by omega) (by omega)) rfl (lt79 (by decide)) rfl tb_3_169 tb_3_171 tb_0_23 tb_1_18 tb_3_172 (na := 2) (by decide +kernel) rfl ⟨by decide, by decide⟩ rfl (Nat.le_of_ble_eq_true rfl) rfl (fun r29 => ?_)
          rw [e9, e10, b2_congr (bef_T (σ := σ) (s := s) (e := e) (by omega) hes).symm]
          first
            | refine x_ifb_eq 55 35 C dX3_sortSleepers_32 rfl rfl (fun h32 => ?_) (fun h32 => ?_)
            | refine x_if_eq 55 35 C dX3_sortSleepers_32 rfl rfl (by omega) (fun h32 => ?_) (fun h32 => ?_)
          · have hstop : insR (cT σ) s (e :: q') = s :: e :: q' := by
              show (if bef (cT σ) s e then _ else _) = _
              rw [if_neg h32]
            exact J55 () hstop
          have hbe : bef (cT σ) s e := h32
          refine x_aload_n 36 C dX3_sortSleepers_35 rfl rfl rfl ?_
          refine x_getr (j := 9) 39 C rfl (lt79 (by decide)) rfl rfl (by decide) inT3 tb_2_116 rfl dX3_sortSleepers_36 rfl ?_
          refine x_iload_n 40 C dX3_sortSleepers_39 rfl rfl rfl ?_
          refine x_aload_n 41 C dX3_sortSleepers_40 rfl rfl rfl ?_
          refine x_getr (j := 9) 44 C rfl (lt79 (by decide)) rfl rfl (by decide) inT3 tb_2_116 rfl dX3_sortSleepers_41 rfl ?_
          refine x_iload_n 45 C dX3_sortSleepers_44 rfl rfl rfl ?_
          refine x_iconst 46 C dX3_sortSleepers_45 rfl ?_
          refine x_isub 47 C dX3_sortSleepers_46 rfl ?_
          refine x_iald 48 C rfl (lt79 (by decide)) dX3_sortSleepers_47 rfl (by omega) (by omega) (fun r47 => ?_)
          rw [hix0, hee] at r47 ⊢
          refine x_iast 49 C rfl (lt79 (by decide)) dX3_sortSleepers_48 rfl (by omega) (by omega) (by omega) ?_
          refine x_iinc_2 52 C dX3_sortSleepers_49 rfl rfl ?_
          refine x_goto 15 C dX3_sortSleepers_52 rfl ?_
          refine ih _ ?_ q' (p ++ [e]) _ _ rfl ⟨by simp only [List.length_cons]; omega, Kp_up hK2 (by omega), by rw [hpq]; simp, ?_, ?_, ?_⟩
          · rw [hmz]; simp
          · intro x hx
            rcases List.mem_append.mp hx with hx | hx
            · exact hbp x hx
            · rw [List.mem_singleton] at hx; subst hx; exact hbe
          · refine SKa_ext q' (fun j a b => ?_) hq2.2
            rw [up_i (by simp only [List.length_cons] at *; omega)]
          · refine SKa_last ?_ p (SKa_ext p (fun j a b => ?_) hp2)
            · rw [show q'.length + 1 = ((((e :: q').length : Nat) : Int)).toNat from hix1.symm, up_s]
            · rw [up_i (by rw [hix1]; omega)]
      exact L15 _ (ordR (cT σ) s) [] _ _ rfl ⟨by rw [hlen], hK1, rfl, fun e he => absurd he List.not_mem_nil, hSK, trivial⟩
  exact L2 _ 0 _ _ _ rfl ⟨by omega, rfl, Kp_refl σ, trivial⟩

theorem frst_nil {g : Nat} : frst [] g = none := rfl
theorem frst_yes {q : Nat × Nat} {L : List (Nat × Nat)} {g : Nat} (h : g.testBit q.1 = false) : frst (q :: L) g = some q := by unfold frst; simp [List.find?, h]
theorem frst_no {q : Nat × Nat} {L : List (Nat × Nat)} {g : Nat} (h : g.testBit q.1 = true) : frst (q :: L) g = frst L g := by unfold frst; simp [List.find?, h]
set_option maxHeartbeats 4000000 in
set_option maxRecDepth 100000 in
theorem c_X3_firstFree {l : Launch} {G : Gt} {ρ : Nat → Nat} {tc : Nat} {cl : Nat → Nat} {σ : Sig} {li g : Nat} {L : List (Nat × Nat)} {wf : Nat × Nat → Int} (hl : li < 20) (hg : g < 64) (hL : LKa σ li L wf) (h6 : L.length ≤ 6) (hq : ∀ q, q ∈ L → q.1 < 6) : MX l yX3_firstFree cX3_firstFree 5 (some .int) 0 0 G (NN tc) ρ (shp tc cl) [.ref (ρ 32), .int (iZ (li : Int)), .int (iZ (g : Int))] σ (PI (fun z σ' => σ = σ' ∧ ((z = -1 ∧ frst L g = none) ∨ ∃ (j : Nat) (q : Nat × Nat), z = ((6 * li + j : Nat) : Int) ∧ L[j]? = some q ∧ frst L g = some q))) := by
  refine MX_of [some (.ref (ρ 32)), some (.int (iZ (li : Int))), some (.int (iZ (g : Int))), none, none] (by decide +kernel) rfl rfl (Nat.le_of_ble_eq_true rfl) ?_
  intro K hKl C T hRng
  subst hKl
  have h36 := hL.1
  have hll : (li : Int).toNat = li := Int.toNat_natCast li
  refine x_iload_n 1 C dX3_firstFree_0 rfl rfl rfl ?_
  refine x_bipush 3 C dX3_firstFree_1 rfl rfl ?_
  refine x_imul 4 C dX3_firstFree_3 rfl ?_
  rw [show (li : Int) * 6 = ((6 * li : Nat) : Int) by omega]
  refine x_istore_n3 5 C dX3_firstFree_4 rfl rfl ?_
  refine x_iload_n 6 C dX3_firstFree_5 rfl rfl rfl ?_
  refine x_istore_4 8 C dX3_firstFree_6 rfl rfl ?_
  have L8 : ∀ (mz : Nat) (j : Nat) (y : Int), mz = 7 - j → (j ≤ L.length ∧ y = ((6 * li + j : Nat) : Int) ∧ frst (L.drop j) g = frst L g) → Ex K G (NN tc) ρ (shp tc cl) 8 [some (.ref (ρ 32)), some (.int (iZ (li : Int))), some (.int (iZ (g : Int))), some (.int (iZ ((6 * li : Nat) : Int))), some (.int (iZ y))] [] σ := by
    intro mz
    induction mz using Nat.strongRecOn with
    | ind mz ih =>
      intro j y hmz hinv
      obtain ⟨hj, rfl, hfr⟩ := hinv
      refine x_iload 10 C dX3_firstFree_8 rfl rfl ?_
      refine x_iload_n 11 C dX3_firstFree_10 rfl rfl rfl ?_
      refine x_aload_n 12 C dX3_firstFree_11 rfl rfl rfl ?_
      refine x_getr (j := 6) 15 C rfl (lt79 (by decide)) rfl rfl (by decide) inT3 tb_2_113 rfl dX3_firstFree_12 rfl ?_
      refine x_iload_n 16 C dX3_firstFree_15 rfl rfl rfl ?_
      refine x_iald 17 C rfl (lt79 (by decide)) dX3_firstFree_16 rfl (by omega) (by omega) (fun r16 => ?_)
      rw [hll] at r16 ⊢
      refine x_iadd 18 C dX3_firstFree_17 rfl ?_
      refine x_icmp_ge 44 21 C dX3_firstFree_18 rfl rfl (by omega) (by omega) (fun h18 => ?_) (fun h18 => ?_)
      · refine x_iconst 45 C dX3_firstFree_44 rfl ?_
        refine x_iret C T dX3_firstFree_45 ?_
        refine PI_i (by omega) ⟨rfl, ?_⟩
        first
          | (refine Or.inr ⟨j, q, rfl, hq1, ?_⟩
             rw [← hfr, hdr, frst_yes (hbit.mp h32)])
          | (refine Or.inl ⟨rfl, ?_⟩
             rw [← hfr, show L.drop j = [] from List.drop_eq_nil_of_le (by omega)]
             rfl)
      refine x_iload_n 22 C dX3_firstFree_21 rfl rfl rfl ?_
      refine x_iconst 23 C dX3_firstFree_22 rfl ?_
      refine x_aload_n 24 C dX3_firstFree_23 rfl rfl rfl ?_
      refine x_getr (j := 7) 27 C rfl (lt79 (by decide)) rfl rfl (by decide) inT3 tb_2_114 rfl dX3_firstFree_24 rfl ?_
      refine x_iload 29 C dX3_firstFree_27 rfl rfl ?_
      refine x_iald 30 C rfl (lt79 (by decide)) dX3_firstFree_29 rfl (by omega) (by omega) (fun r29 => ?_)
      obtain ⟨q, hq1⟩ : ∃ q, L[j]? = some q := ⟨_, List.getElem?_eq_getElem (by omega)⟩
      have hqm := hq q (List.mem_of_getElem? hq1)
      have hix : ((6 * li + j : Nat) : Int).toNat = 6 * li + j := Int.toNat_natCast _
      have h37 := (hL.2 j q hq1).1
      rw [hix, h37] at r29 ⊢
      have hdr : L.drop j = q :: L.drop (j + 1) := by
        have hjl : j < L.length := (List.getElem?_eq_some_iff.mp hq1).1
        rw [List.drop_eq_getElem_cons hjl]
        congr 1
        rw [List.getElem?_eq_getElem hjl] at hq1
        exact Option.some.inj hq1
      have hpw := pw_pos q.1 hqm
      refine x_ishl (((2 ^ q.1 : Nat) : Int)) 31 C dX3_firstFree_30 rfl (sh1 q.1 hqm) ?_
      refine x_iand ((if g.testBit q.1 then ((2 ^ q.1 : Nat) : Int) else 0)) 32 C dX3_firstFree_31 rfl (and1 g hg q.1 hqm) ?_
      have hbit : (if g.testBit q.1 then ((2 ^ q.1 : Nat) : Int) else 0) = 0 ↔ g.testBit q.1 = false := by
        cases g.testBit q.1 with
        | false => simp
        | true => simp only [if_true]; constructor
                  · intro h; exact absurd h hpw.1
                  · intro h; cases h
      refine x_if_ne 38 35 C dX3_firstFree_32 rfl rfl (by split <;> omega) (fun h32 => ?_) (fun h32 => ?_)
      · refine x_iinc_4 41 C dX3_firstFree_38 rfl rfl ?_
        refine x_goto 8 C dX3_firstFree_41 rfl ?_
        refine ih _ ?_ (j + 1) _ rfl ⟨?_, by omega, ?_⟩
        · omega
        · omega
        · rw [hdr, frst_no (by cases hb : g.testBit q.1 with | false => exact absurd (hbit.mpr hb) h32 | true => rfl)] at hfr; exact hfr
      refine x_iload 37 C dX3_firstFree_35 rfl rfl ?_
      refine x_iret C T dX3_firstFree_37 ?_
      refine PI_i (by omega) ⟨rfl, ?_⟩
      first
        | (refine Or.inr ⟨j, q, rfl, hq1, ?_⟩
           rw [← hfr, hdr, frst_yes (hbit.mp h32)])
        | (refine Or.inl ⟨rfl, ?_⟩
           rw [← hfr, show L.drop j = [] from List.drop_eq_nil_of_le (by omega)]
           rfl)
  exact L8 _ 0 _ rfl ⟨by omega, rfl, rfl⟩

/-- all beds' lists, by the town's ways and minutes -/
def HL (X : Nat → RuT) (σ s1 : Sig) : Prop := ∀ s : Nat, (s : Int) < σ 1 8 → LKa s1 (4 * s + (σ 8 s).toNat) (seenT X (cT σ) s) (wrth X (cT σ) (σ 9 s) s)
/-- who has what, and what it is worth -/
def HD (X : Nat → RuT) (σ s1 : Sig) : Prop := ∀ s : Nat, (s : Int) < σ 1 8 → s1 40 s = hasI (hadT X (cT σ) s) ∧ s1 41 s = worO X (cT σ) (σ 9 s) s (hadT X (cT σ) s)
theorem seenT_le {X : Nat → RuT} {σ : Sig} (hT : TI σ) (s : Nat) : (seenT X (cT σ) s).length ≤ 6 := by
  have := hT.2.2.2.2 s
  exact seenG_le (TI_cT hT) (show 0 ≤ σ 8 s ∧ σ 8 s ≤ 3 by omega) (show 0 ≤ σ 9 s ∧ σ 9 s ≤ 23 by omega)
theorem seenT_mem {X : Nat → RuT} {σ : Sig} (hT : TI σ) {s : Nat} {q : Nat × Nat} (h : q ∈ seenT X (cT σ) s) : q.1 < 6 ∧ (q.1 : Int) < σ 1 3 ∧ 1 ≤ q.2 ∧ q.2 ≤ 5 := by
  have h1 := seenG_mem (X := X) (T := cT σ) (c := (cT σ) 7 s) (w := (cT σ) 8 s) (m := (cT σ) 9 s) (s := (s : Int)) h
  have h3 := hT.2.2.1
  have e : thN (cT σ) = (σ 1 3).toNat := rfl
  rw [e] at h1
  omega
theorem gon_lt {X : Nat → RuT} {σ : Sig} (hT : TI σ) : ∀ i, gon (cT σ) (seenT X (cT σ)) i < 64
  | 0 => by show 0 < 64; decide
  | i + 1 => by
    have h := gon_lt (X := X) hT i
    show gaft _ _ < 64
    cases hf : frst (seenT X (cT σ) (ordN (cT σ) i)) (gon (cT σ) (seenT X (cT σ)) i) with
    | none => exact h
    | some q => exact or_lt _ h _ (seenT_mem hT (frst_mem hf).1).1
theorem slN_T {σ : Sig} : slN (cT σ) = (σ 1 8).toNat := rfl
set_option maxHeartbeats 4000000 in
set_option maxRecDepth 100000 in
theorem c_X3_deal {l : Launch} {G : Gt} {ρ : Nat → Nat} {tc : Nat} {cl : Nat → Nat} {σ : Sig} {X : Nat → RuT} {τ : Sig} (hT : TI τ) (hτ : ∀ a, a ≤ 10 → σ a = τ a) (hL : HL X τ σ) : MX l yX3_deal cX3_deal 5 none 2 44 G (NN tc) ρ (shp tc cl) [.ref (ρ 32)] σ (PV (fun σ' => Kp 39 41 σ σ' ∧ HD X τ σ')) := by
  refine MX_of [some (.ref (ρ 32)), none, none, none, none] (by decide +kernel) rfl rfl (Nat.le_of_ble_eq_true rfl) ?_
  intro K hKl C T hRng
  subst hKl
  have hTσ : TI σ := TI_keep hτ hT
  have ecT : cT σ = cT τ := cT_keep hτ
  have h8 := hT.2.2.2.1
  have q18 : σ 1 8 = τ 1 8 := congrFun (hτ 1 (by omega)) 8
  have q8 : σ 8 = τ 8 := hτ 8 (by omega)
  refine x_aload_n 1 C dX3_deal_0 rfl rfl rfl ?_
  refine x_callVv 4 C dX3_deal_1 rfl (c_X3_sortSleepers hTσ) rfl (lt79 (by decide)) rfl tb_3_165 tb_3_167 tb_0_22 tb_1_18 tb_3_168 (na := 0) (by decide +kernel) rfl ⟨by decide, by decide⟩ rfl (Nat.le_of_ble_eq_true rfl) rfl (fun s1 hq1 hR1 => ?_)
  obtain ⟨k1, k2⟩ := hq1
  rw [ecT] at k2
  refine x_iconst 5 C dX3_deal_4 rfl ?_
  refine x_istore_n1 6 C dX3_deal_5 rfl rfl ?_
  refine x_iconst 7 C dX3_deal_6 rfl ?_
  refine x_istore_n2 8 C dX3_deal_7 rfl rfl ?_
  have L8 : ∀ (mz : Nat) (i : Nat) (g y : Int) (sw : Sig) (x3 x4 : Option Value), mz = 6 - i → ((i : Int) ≤ τ 1 8 ∧ y = i ∧ g = ((gon (cT τ) (seenT X (cT τ)) i : Nat) : Int) ∧ Kp 39 41 σ sw ∧ sw 39 = s1 39 ∧ ∀ j : Nat, j < i → sw 40 (ordN (cT τ) j) = hasI (hadT X (cT τ) (ordN (cT τ) j)) ∧ sw 41 (ordN (cT τ) j) = worO X (cT τ) (τ 9 (ordN (cT τ) j)) (ordN (cT τ) j : Nat) (hadT X (cT τ) (ordN (cT τ) j))) → Ex K G (NN tc) ρ (shp tc cl) 8 [some (.ref (ρ 32)), some (.int (iZ g)), some (.int (iZ y)), x3, x4] [] sw := by
    intro mz
    induction mz using Nat.strongRecOn with
    | ind mz ih =>
      intro i g y sw x3 x4 hmz hinv
      obtain ⟨hi, rfl, hg, hK1, h39, hd⟩ := hinv
      have hii : (i : Int).toNat = i := Int.toNat_natCast i
      have e18 : sw 1 8 = τ 1 8 := by rw [← q18]; exact congrFun (hK1 1 (by omega) (by omega)) 8
      have e8 : sw 8 = τ 8 := by rw [← q8]; exact hK1 8 (by omega) (by omega)
      obtain ⟨G1, hG1e⟩ : ∃ G, gon (cT τ) (seenT X (cT τ)) i = G := ⟨_, rfl⟩
      have hG1 : G1 < 64 := by rw [← hG1e]; exact gon_lt hT i
      rw [hG1e] at hg
      subst hg
      refine x_iload_n 9 C dX3_deal_8 rfl rfl rfl ?_
      refine x_aload_n 10 C dX3_deal_9 rfl rfl rfl ?_
      refine x_getr (j := 0) 13 C rfl (lt79 (by decide)) rfl rfl (by decide) inT3 tb_2_107 rfl dX3_deal_10 rfl ?_
      refine x_geti (j := 8) 16 C rfl (lt79 (by decide)) rfl rfl (by decide) inT9 tb_1_59 rfl dX3_deal_13 rfl (fun r13 => ?_)
      refine x_icmp_ge 120 19 C dX3_deal_16 rfl rfl (by omega) (by omega) (fun h16 => ?_) (fun h16 => ?_)
      · refine x_vret C T dX3_deal_120 ?_
        refine PV_i ⟨hK1, fun s hs => ?_⟩
        obtain ⟨j, hj, hjs⟩ := ordN_sur (T := cT τ) (s := s) (by rw [slN_T]; omega)
        rw [slN_T] at hj
        have := hd j (by omega)
        rw [hjs] at this
        exact this
      refine x_aload_n 20 C dX3_deal_19 rfl rfl rfl ?_
      refine x_getr (j := 9) 23 C rfl (lt79 (by decide)) rfl rfl (by decide) inT3 tb_2_116 rfl dX3_deal_20 rfl ?_
      refine x_iload_n 24 C dX3_deal_23 rfl rfl rfl ?_
      skip
      refine x_iald 25 C rfl (lt79 (by decide)) dX3_deal_24 rfl (by omega) (by omega) (fun r24 => ?_)
      rw [hii, h39, k2 i (by omega)] at r24 ⊢
      obtain ⟨s, hss⟩ : ∃ s, ordN (cT τ) i = s := ⟨_, rfl⟩
      rw [hss] at r24 ⊢
      have hsl : (s : Int) < τ 1 8 := by
        have := ordN_lt (T := cT τ) (i := i) (by rw [slN_T]; omega)
        rw [hss, slN_T] at this
        omega
      have hsn : (s : Int).toNat = s := Int.toNat_natCast s
      have hqs := hT.2.2.2.2 s
      have hLs : LKa sw (4 * s + (τ 8 s).toNat) (seenT X (cT τ) s) (wrth X (cT τ) (τ 9 s) s) := LKa_keep (hL s hsl) (hK1 36 (by omega) (by omega)) (hK1 37 (by omega) (by omega)) (hK1 38 (by omega) (by omega))
      refine x_istore_n3 26 C dX3_deal_25 rfl rfl ?_
      refine x_aload_n 27 C dX3_deal_26 rfl rfl rfl ?_
      refine x_iload_n 28 C dX3_deal_27 rfl rfl rfl ?_
      refine x_iconst 29 C dX3_deal_28 rfl ?_
      refine x_imul 30 C dX3_deal_29 rfl ?_
      refine x_aload_n 31 C dX3_deal_30 rfl rfl rfl ?_
      refine x_getr (j := 0) 34 C rfl (lt79 (by decide)) rfl rfl (by decide) inT3 tb_2_107 rfl dX3_deal_31 rfl ?_
      refine x_getr (j := 10) 37 C rfl (lt79 (by decide)) rfl rfl (by decide) inT9 tb_1_66 rfl dX3_deal_34 rfl ?_
      refine x_iload_n 38 C dX3_deal_37 rfl rfl rfl ?_
      refine x_iald 39 C rfl (lt79 (by decide)) dX3_deal_38 rfl (by omega) (by omega) (fun r38 => ?_)
      rw [hsn, e8] at r38 ⊢
      refine x_iadd 40 C dX3_deal_39 rfl ?_
      rw [show (s : Int) * 4 + τ 8 s = ((4 * s + (τ 8 s).toNat : Nat) : Int) by omega]
      refine x_iload_n 41 C dX3_deal_40 rfl rfl rfl ?_
      refine x_callVi 44 C dX3_deal_41 rfl (c_X3_firstFree (li := 4 * s + (τ 8 s).toNat) (g := G1) (by omega) hG1 hLs (seenT_le hT s) (fun q hq => (seenT_mem hT hq).1)) rfl (lt79 (by decide)) rfl tb_3_173 tb_3_175 tb_0_24 tb_1_18 tb_3_176 (na := 2) (by decide +kernel) rfl ⟨by decide, by decide⟩ rfl (Nat.le_of_ble_eq_true rfl) rfl (fun z41 s41 hz41 hq41 hR41 => ?_)
      obtain ⟨he41, hz⟩ := hq41
      subst he41
      have hho : hadT X (cT τ) s = frst (seenT X (cT τ) s) G1 := by
        show hadO (cT τ) (seenT X (cT τ)) s = _
        rw [← hss, hadO_at (by rw [slN_T]; omega), hss, hG1e]
      have hgs : gon (cT τ) (seenT X (cT τ)) (i + 1) = gaft G1 (hadT X (cT τ) s) := by
        rw [hho, ← hG1e, ← hss]
        rfl
      have hff : (z41 = -1 ∧ hadT X (cT τ) s = none) ∨ (z41 ≠ -1 ∧ ∃ q, hadT X (cT τ) s = some q ∧ 0 ≤ z41 ∧ z41 < 120 ∧ sw 37 z41.toNat = (q.1 : Int) ∧ sw 38 z41.toNat = wrth X (cT τ) (τ 9 s) s q ∧ q.1 < 6) := by
        rcases hz with ⟨z1, z2⟩ | ⟨j, q, z1, z2, z3⟩
        · exact Or.inl ⟨z1, by rw [hho]; exact z2⟩
        · have hjl := (List.getElem?_eq_some_iff.mp z2).1
          have h6 := seenT_le (X := X) hT s
          obtain ⟨w1, w2⟩ := hLs.2 j q z2
          rw [show 6 * (4 * s + (τ 8 s).toNat) + j = z41.toNat by omega] at w1 w2
          exact Or.inr ⟨by omega, q, by rw [hho]; exact z3, by omega, by omega, w1, w2, (seenT_mem hT (List.mem_of_getElem? z2)).1⟩
      refine x_istore_4 46 C dX3_deal_44 rfl rfl ?_
      refine x_aload_n 47 C dX3_deal_46 rfl rfl rfl ?_
      refine x_getr (j := 10) 50 C rfl (lt79 (by decide)) rfl rfl (by decide) inT3 tb_2_117 rfl dX3_deal_47 rfl ?_
      refine x_iload_n 51 C dX3_deal_50 rfl rfl rfl ?_
      have J68 : ∀ (v : Int), (v = hasI (hadT X (cT τ) s) ∧ (-2147483648 ≤ v ∧ v ≤ 2147483647)) → Ex K G (NN tc) ρ (shp tc cl) 68 [some (.ref (ρ 32)), some (.int (iZ (G1 : Int))), some (.int (iZ (i : Int))), some (.int (iZ (s : Int))), some (.int (iZ z41))] [.int (iZ v), .int (iZ (s : Int)), .ref (ρ 40)] sw := by
        intro v hinv
        obtain ⟨hv1, hv1r⟩ := hinv
        skip
        refine x_iast 69 C rfl (lt79 (by decide)) dX3_deal_68 rfl (by omega) (by omega) (by omega) ?_
        refine x_aload_n 70 C dX3_deal_69 rfl rfl rfl ?_
        refine x_getr (j := 11) 73 C rfl (lt79 (by decide)) rfl rfl (by decide) inT3 tb_2_119 rfl dX3_deal_70 rfl ?_
        refine x_iload_n 74 C dX3_deal_73 rfl rfl rfl ?_
        have J91 : ∀ (v2 : Int), (v2 = worO X (cT τ) (τ 9 s) s (hadT X (cT τ) s) ∧ (-2147483648 ≤ v2 ∧ v2 ≤ 2147483647)) → Ex K G (NN tc) ρ (shp tc cl) 91 [some (.ref (ρ 32)), some (.int (iZ (G1 : Int))), some (.int (iZ (i : Int))), some (.int (iZ (s : Int))), some (.int (iZ z41))] [.int (iZ v2), .int (iZ (s : Int)), .ref (ρ 41)] (up sw 40 (s : Int).toNat v) := by
          intro v2 hinv
          obtain ⟨hv2, hv2r⟩ := hinv
          refine x_iast 92 C rfl (lt79 (by decide)) dX3_deal_91 rfl (by omega) (by omega) (by omega) ?_
          refine x_iload_n 93 C dX3_deal_92 rfl rfl rfl ?_
          have J112 : ∀ (v3 : Int) (u : Unit), (iZ (G1 : Int) ||| iZ v3 = iZ ((gon (cT τ) (seenT X (cT τ)) (i + 1) : Nat) : Int)) → Ex K G (NN tc) ρ (shp tc cl) 112 [some (.ref (ρ 32)), some (.int (iZ (G1 : Int))), some (.int (iZ (i : Int))), some (.int (iZ (s : Int))), some (.int (iZ z41))] [.int (iZ v3), .int (iZ (G1 : Int))] (up (up sw 40 (s : Int).toNat v) 41 (s : Int).toNat v2) := by
            intro v3 u hinv
            have hor := hinv
            refine x_ior (((gon (cT τ) (seenT X (cT τ)) (i + 1) : Nat) : Int)) 113 C dX3_deal_112 rfl hor ?_
            have hgn : ((gon (cT τ) (seenT X (cT τ)) (i + 1) : Nat) : Int) = ((gon (cT τ) (seenT X (cT τ)) (i + 1) : Nat) : Int) := rfl
            refine x_istore_n1 114 C dX3_deal_113 rfl rfl ?_
            refine x_iinc_2 117 C dX3_deal_114 rfl rfl ?_
            refine x_goto 8 C dX3_deal_117 rfl ?_
            clear hff
            refine ih _ (by omega) (i + 1) _ _ _ _ _ rfl ⟨by omega, by omega, hgn, Kp_up (Kp_up hK1 (by omega)) (by omega), ?_, fun j hj => ?_⟩
            · rw [up_row (by omega), up_row (by omega)]; exact h39
            · rw [up_r (show (40 : Nat) ≠ 41 by decide), hsn]
              by_cases hji : j = i
              · subst hji
                rw [hss, up_s, up_s]
                exact ⟨hv1, hv2⟩
              · have hne : ordN (cT τ) j ≠ s := by
                  rw [← hss]
                  intro h
                  exact hji (ordN_inj (T := cT τ) (by rw [slN_T]; omega) (by rw [slN_T]; omega) h)
                rw [up_i hne, up_i hne, up_r (show (41 : Nat) ≠ 40 by decide)]
                exact hd j (by omega)
          refine x_iload 95 C dX3_deal_93 rfl rfl ?_
          refine x_iconst 96 C dX3_deal_95 rfl ?_
          refine x_icmp_ne 103 99 C dX3_deal_96 rfl rfl (by omega) (by omega) (fun h96 => ?_) (fun h96 => ?_)
          · refine x_iconst 104 C dX3_deal_103 rfl ?_
            refine x_aload_n 105 C dX3_deal_104 rfl rfl rfl ?_
            refine x_getr (j := 7) 108 C rfl (lt79 (by decide)) rfl rfl (by decide) inT3 tb_2_114 rfl dX3_deal_105 rfl ?_
            refine x_iload 110 C dX3_deal_108 rfl rfl ?_
            refine x_iald 111 C rfl (lt79 (by decide)) dX3_deal_110 rfl (by omega) (by omega) (fun r110 => ?_)
            obtain ⟨q, hq1, hq2, hq3, hq4, hq5, hq6⟩ : ∃ q, hadT X (cT τ) s = some q ∧ 0 ≤ z41 ∧ z41 < 120 ∧ sw 37 z41.toNat = (q.1 : Int) ∧ sw 38 z41.toNat = wrth X (cT τ) (τ 9 s) s q ∧ q.1 < 6 := by
              rcases hff with ⟨a, b⟩ | ⟨a, h⟩
              · omega
              · exact h
            rw [up_r (show (37 : Nat) ≠ 41 by decide), up_r (show (37 : Nat) ≠ 40 by decide), hq4] at *
            refine x_ishl (((2 ^ q.1 : Nat) : Int)) 112 C dX3_deal_111 rfl (sh1 q.1 hq6) ?_
            have hgo : (iZ (G1 : Int) ||| iZ ((2 ^ q.1 : Nat) : Int)) = iZ ((gon (cT τ) (seenT X (cT τ)) (i + 1) : Nat) : Int) := by
              rw [or1 G1 hG1 q.1 hq6, hgs, hq1]
              rfl
            exact J112 _ () hgo
          have hgo : (iZ (G1 : Int) ||| iZ 0) = iZ ((gon (cT τ) (seenT X (cT τ)) (i + 1) : Nat) : Int) := by
            rw [or0 G1 hG1, hgs]
            rcases hff with ⟨a, b⟩ | ⟨a, h⟩
            · rw [b]; rfl
            · omega
          refine x_iconst 100 C dX3_deal_99 rfl ?_
          refine x_goto 112 C dX3_deal_100 rfl ?_
          exact J112 _ () hgo
        refine x_iload 76 C dX3_deal_74 rfl rfl ?_
        refine x_iconst 77 C dX3_deal_76 rfl ?_
        refine x_icmp_ne 84 80 C dX3_deal_77 rfl rfl (by omega) (by omega) (fun h77 => ?_) (fun h77 => ?_)
        · refine x_aload_n 85 C dX3_deal_84 rfl rfl rfl ?_
          refine x_getr (j := 8) 88 C rfl (lt79 (by decide)) rfl rfl (by decide) inT3 tb_2_115 rfl dX3_deal_85 rfl ?_
          refine x_iload 90 C dX3_deal_88 rfl rfl ?_
          refine x_iald 91 C rfl (lt79 (by decide)) dX3_deal_90 rfl (by omega) (by omega) (fun r90 => ?_)
          exact J91 _ ⟨by rcases hff with ⟨a, b⟩ | ⟨a, q, b, c, d, e, f, g⟩ <;> first | (rw [b]; rfl) | (rw [up_r (by omega), b, f]; rfl) | omega, by omega⟩
        refine x_iconst 81 C dX3_deal_80 rfl ?_
        refine x_goto 91 C dX3_deal_81 rfl ?_
        exact J91 _ ⟨by rcases hff with ⟨a, b⟩ | ⟨a, q, b, c, d, e, f, g⟩ <;> first | (rw [b]; rfl) | (rw [up_r (by omega), b, f]; rfl) | omega, by omega⟩
      refine x_iload 53 C dX3_deal_51 rfl rfl ?_
      refine x_iconst 54 C dX3_deal_53 rfl ?_
      refine x_icmp_ne 61 57 C dX3_deal_54 rfl rfl (by omega) (by omega) (fun h54 => ?_) (fun h54 => ?_)
      · refine x_aload_n 62 C dX3_deal_61 rfl rfl rfl ?_
        refine x_getr (j := 7) 65 C rfl (lt79 (by decide)) rfl rfl (by decide) inT3 tb_2_114 rfl dX3_deal_62 rfl ?_
        refine x_iload 67 C dX3_deal_65 rfl rfl ?_
        refine x_iald 68 C rfl (lt79 (by decide)) dX3_deal_67 rfl (by omega) (by omega) (fun r67 => ?_)
        exact J68 _ ⟨by rcases hff with ⟨a, b⟩ | ⟨a, q, b, c, d, e, f, g⟩ <;> first | (rw [b]; rfl) | (rw [b, e]; rfl) | omega, by omega⟩
      refine x_iconst 58 C dX3_deal_57 rfl ?_
      refine x_goto 68 C dX3_deal_58 rfl ?_
      exact J68 _ ⟨by rcases hff with ⟨a, b⟩ | ⟨a, q, b, c, d, e, f, g⟩ <;> first | (rw [b]; rfl) | (rw [b, e]; rfl) | omega, by omega⟩
  exact L8 _ 0 _ _ _ _ _ rfl ⟨by omega, rfl, rfl, Kp_wide k1 (by omega) (by omega), rfl, fun j hj => absurd hj (by omega)⟩
