set_option maxHeartbeats 4000000 in
theorem c_X8_init {l : Launch} {G : Gt} {ρ : Nat → Nat} {N t : Nat} {sh : Nat → Shc} {σ : Sig} : MX l yX8_init cX8_init 1 none 1 20 G N ρ sh [.ref (ρ t)] σ (PV (fun σ' => σ = σ')) := by
  refine MX_of [some (.ref (ρ t))] (by decide +kernel) rfl rfl (Nat.le_of_ble_eq_true rfl) ?_
  intro K hKl C T hR
  subst hKl
  refine x_aload_n 1 C dX8_init_0 rfl rfl rfl ?_
  refine x_objI 4 C tb_1_108 tb_1_27 tb_1_28 rfl (by decide) (by decide) (Nat.le_of_ble_eq_true rfl) dX8_init_1 rfl ?_
  exact x_vret C T dX8_init_4 (PV_i rfl)
set_option maxHeartbeats 4000000 in
theorem c_X10_init {l : Launch} {G : Gt} {ρ : Nat → Nat} {N t : Nat} {sh : Nat → Shc} {σ : Sig} : MX l yX10_init cX10_init 1 none 2 40 G N ρ sh [.ref (ρ t)] σ (PV (fun σ' => σ = σ')) := by
  refine MX_of [some (.ref (ρ t))] (by decide +kernel) rfl rfl (Nat.le_of_ble_eq_true rfl) ?_
  intro K hKl C T hR
  subst hKl
  refine x_aload_n 1 C dX10_init_0 rfl rfl rfl ?_
  refine x_callIN (host := "FirstSeen") 4 C dX10_init_1 rfl (c_X8_init (t := t)) (by decide +kernel) tb_1_106 tb_1_3 tb_1_107 rfl (by decide +kernel) (na := 0) rfl ⟨by decide, by decide⟩ rfl (Nat.le_of_ble_eq_true rfl) rfl (fun r s1 hq hR => ?_)
  obtain ⟨rfl, rfl⟩ := hq
  exact x_vret C T dX10_init_4 (PV_i rfl)
set_option maxHeartbeats 4000000 in
theorem c_X4_init {l : Launch} {G : Gt} {ρ : Nat → Nat} {N t : Nat} {sh : Nat → Shc} {σ : Sig} : MX l yX4_init cX4_init 1 none 2 40 G N ρ sh [.ref (ρ t)] σ (PV (fun σ' => σ = σ')) := by
  refine MX_of [some (.ref (ρ t))] (by decide +kernel) rfl rfl (Nat.le_of_ble_eq_true rfl) ?_
  intro K hKl C T hR
  subst hKl
  refine x_aload_n 1 C dX4_init_0 rfl rfl rfl ?_
  refine x_callIN (host := "FirstSeen") 4 C dX4_init_1 rfl (c_X8_init (t := t)) (by decide +kernel) tb_1_106 tb_1_3 tb_1_107 rfl (by decide +kernel) (na := 0) rfl ⟨by decide, by decide⟩ rfl (Nat.le_of_ble_eq_true rfl) rfl (fun r s1 hq hR => ?_)
  obtain ⟨rfl, rfl⟩ := hq
  exact x_vret C T dX4_init_4 (PV_i rfl)
set_option maxHeartbeats 4000000 in
theorem c_X2_init {l : Launch} {G : Gt} {ρ : Nat → Nat} {N t : Nat} {sh : Nat → Shc} {σ : Sig} : MX l yX2_init cX2_init 1 none 2 40 G N ρ sh [.ref (ρ t)] σ (PV (fun σ' => σ = σ')) := by
  refine MX_of [some (.ref (ρ t))] (by decide +kernel) rfl rfl (Nat.le_of_ble_eq_true rfl) ?_
  intro K hKl C T hR
  subst hKl
  refine x_aload_n 1 C dX2_init_0 rfl rfl rfl ?_
  refine x_callIN (host := "FirstSeen") 4 C dX2_init_1 rfl (c_X8_init (t := t)) (by decide +kernel) tb_1_106 tb_1_3 tb_1_107 rfl (by decide +kernel) (na := 0) rfl ⟨by decide, by decide⟩ rfl (Nat.le_of_ble_eq_true rfl) rfl (fun r s1 hq hR => ?_)
  obtain ⟨rfl, rfl⟩ := hq
  exact x_vret C T dX2_init_4 (PV_i rfl)
set_option maxHeartbeats 4000000 in
theorem c_X0_init {l : Launch} {G : Gt} {ρ : Nat → Nat} {N t : Nat} {sh : Nat → Shc} {σ : Sig} : MX l yX0_init cX0_init 1 none 3 60 G N ρ sh [.ref (ρ t)] σ (PV (fun σ' => σ = σ')) := by
  refine MX_of [some (.ref (ρ t))] (by decide +kernel) rfl rfl (Nat.le_of_ble_eq_true rfl) ?_
  intro K hKl C T hR
  subst hKl
  refine x_aload_n 1 C dX0_init_0 rfl rfl rfl ?_
  refine x_callIN (host := "FirstSeen") 4 C dX0_init_1 rfl (c_X10_init (t := t)) (by decide +kernel) tb_1_113 tb_1_4 tb_1_114 rfl (by decide +kernel) (na := 0) rfl ⟨by decide, by decide⟩ rfl (Nat.le_of_ble_eq_true rfl) rfl (fun r s1 hq hR => ?_)
  obtain ⟨rfl, rfl⟩ := hq
  exact x_vret C T dX0_init_4 (PV_i rfl)
set_option maxHeartbeats 4000000 in
theorem c_X1_init {l : Launch} {G : Gt} {ρ : Nat → Nat} {N t : Nat} {sh : Nat → Shc} {σ : Sig} : MX l yX1_init cX1_init 1 none 3 60 G N ρ sh [.ref (ρ t)] σ (PV (fun σ' => σ = σ')) := by
  refine MX_of [some (.ref (ρ t))] (by decide +kernel) rfl rfl (Nat.le_of_ble_eq_true rfl) ?_
  intro K hKl C T hR
  subst hKl
  refine x_aload_n 1 C dX1_init_0 rfl rfl rfl ?_
  refine x_callIN (host := "FirstSeen") 4 C dX1_init_1 rfl (c_X4_init (t := t)) (by decide +kernel) tb_1_120 tb_1_5 tb_1_121 rfl (by decide +kernel) (na := 0) rfl ⟨by decide, by decide⟩ rfl (Nat.le_of_ble_eq_true rfl) rfl (fun r s1 hq hR => ?_)
  obtain ⟨rfl, rfl⟩ := hq
  exact x_vret C T dX1_init_4 (PV_i rfl)
set_option maxHeartbeats 4000000 in
set_option maxRecDepth 100000 in
theorem c_X5_putR {l : Launch} {G : Gt} {ρ : Nat → Nat} {N : Nat} {sh : Nat → Shc} {σ : Sig} {v : Int} (hv : -2147483648 ≤ v ∧ v ≤ 2147483647) (hs : 0 ≤ σ 28 1 ∧ σ 28 1 ≤ 160) (hW : RW N sh) : MX l yX5_put cX5_put 2 (some .boolean) 0 0 G N ρ sh [.ref (ρ 28), .int (iZ v)] σ (PI (fun z σ' => (σ 28 1 < 160 → z = 1 ∧ σ' = up (up σ 29 (σ 28 1).toNat v) 28 1 (σ 28 1 + 1)) ∧ (¬ σ 28 1 < 160 → z = 0 ∧ σ' = σ))) := by
  refine MX_of [some (.ref (ρ 28)), some (.int (iZ v))] (by decide +kernel) rfl rfl (Nat.le_of_ble_eq_true rfl) ?_
  intro K hKl C T hRng
  subst hKl
  refine x_aload_n 1 C dX5_put_0 rfl rfl rfl ?_
  refine x_geti (j := 1) 4 C hW.2.1 (by have := hW.1; omega) rfl rfl (by decide) inT5 tb_1_153 rfl dX5_put_1 rfl (fun r1 => ?_)
  refine x_sipush 7 C dX5_put_4 rfl rfl ?_
  refine x_icmp_lt 12 10 C dX5_put_7 rfl rfl (by omega) (by omega) (fun h7 => ?_) (fun h7 => ?_)
  · refine x_aload_n 13 C dX5_put_12 rfl rfl rfl ?_
    refine x_getr (j := 0) 16 C hW.2.1 (by have := hW.1; omega) rfl rfl (by decide) inT5 tb_1_151 rfl dX5_put_13 rfl ?_
    refine x_aload_n 17 C dX5_put_16 rfl rfl rfl ?_
    refine x_geti (j := 1) 20 C hW.2.1 (by have := hW.1; omega) rfl rfl (by decide) inT5 tb_1_153 rfl dX5_put_17 rfl (fun r17 => ?_)
    refine x_iload_n 21 C dX5_put_20 rfl rfl rfl ?_
    refine x_iast 22 C hW.2.2.1 (by have := hW.1; omega) dX5_put_21 rfl (by omega) (by omega) (by omega) ?_
    refine x_aload_n 23 C dX5_put_22 rfl rfl rfl ?_
    refine x_dup 24 C dX5_put_23 rfl rfl ?_
    refine x_geti (j := 1) 27 C hW.2.1 (by have := hW.1; omega) rfl rfl (by decide) inT5 tb_1_153 rfl dX5_put_24 rfl (fun r24 => ?_)
    refine x_iconst 28 C dX5_put_27 rfl ?_
    rw [show up σ 29 (σ 28 1).toNat v 28 1 = σ 28 1 from up_r (by omega)]
    refine x_iadd 29 C dX5_put_28 rfl ?_
    refine x_puti (j := 1) tyX5 32 C hW.2.1 (by have := hW.1; omega) rfl rfl (by decide) inT5 tyX5_ok nmX5 tb_1_153 rfl rfl rfl dX5_put_29 rfl (by omega) ?_
    refine x_iconst 33 C dX5_put_32 rfl ?_
    refine x_zret C T dX5_put_33 (by omega) ?_
    exact PI_i (by omega) ⟨fun h => by first | exact ⟨rfl, rfl⟩ | omega, fun h => by first | exact ⟨rfl, rfl⟩ | omega⟩
  refine x_iconst 11 C dX5_put_10 rfl ?_
  refine x_zret C T dX5_put_11 (by omega) ?_
  exact PI_i (by omega) ⟨fun h => by first | exact ⟨rfl, rfl⟩ | omega, fun h => by first | exact ⟨rfl, rfl⟩ | omega⟩

set_option maxHeartbeats 4000000 in
set_option maxRecDepth 100000 in
theorem c_J7_copyOf_59c91 {l : Launch} {G : Gt} {ρ : Nat → Nat} {N : Nat} {sh : Nat → Shc} {σ : Sig} {q m n : Nat} (hwf : Wf N sh) (hs : sh q = cA m) (hq : q < N) (hm : m ≤ 1000) (hn : n < m) (hN : N < 900) (hz : HZ N σ) : MXA l yJ7_copyOf_59c91 cJ7_copyOf_59c91 3 (some (.array .int)) 1 60 1 (0 + n) G N ρ sh [.ref (ρ q), .int (iZ (n : Int))] σ (fun r ρ' N' sh' σ' => r = some (.ref (ρ' N)) ∧ N' = N + 1 ∧ sh' = su sh N (cA n) ∧ σ' = fun a b => if a = N ∧ b < n then σ q b else σ a b) := by
  refine MXA_of [some (.ref (ρ q)), some (.int (iZ (n : Int))), none] hwf (by decide +kernel) rfl rfl (Nat.le_of_ble_eq_true rfl) ?_
  intro K hKl A hci hRng
  subst hKl
  have C := A.1
  refine x_iload_n 1 C dJ7_copyOf_59c91_0 rfl rfl rfl ?_
  refine x_aload_n 2 C dJ7_copyOf_59c91_1 rfl rfl rfl ?_
  refine x_alen 3 C hs hq dJ7_copyOf_59c91_2 rfl ?_
  refine x_icmp_ne 14 6 C dJ7_copyOf_59c91_3 rfl rfl (by omega) (by omega) (fun h3 => ?_) (fun h3 => ?_)
  · refine x_iload_n 15 C dJ7_copyOf_59c91_14 rfl rfl rfl ?_
    refine x_newI (len := n) (a := 0) (b := 0) (lvf := fun ρ => [some (.ref (ρ q)), some (.int (iZ (n : Int))), none]) (stf := fun _ => []) 17 A (by omega) tb_1_101 (by omega) (fun i => (hz _ (by omega) (by omega) i).1) (fun ρ' h => ⟨by simp only [h q (by omega)], rfl⟩) dJ7_copyOf_59c91_15 rfl (fun K ρ hKl hρ A => ?_)
    have C := A.1
    show Ex K G (N + 1) ρ (su sh N (cA n)) 17 [some (.ref (ρ q)), some (.int (iZ (n : Int))), none] [.ref (ρ N)] σ
    refine x_astore_n2 18 C dJ7_copyOf_59c91_17 rfl rfl ?_
    refine x_aload_n 19 C dJ7_copyOf_59c91_18 rfl rfl rfl ?_
    refine x_iconst 20 C dJ7_copyOf_59c91_19 rfl ?_
    refine x_aload_n 21 C dJ7_copyOf_59c91_20 rfl rfl rfl ?_
    refine x_iconst 22 C dJ7_copyOf_59c91_21 rfl ?_
    refine x_aload_n 23 C dJ7_copyOf_59c91_22 rfl rfl rfl ?_
    refine x_alen 24 C ((su_ne (by omega)).trans hs) (by omega) dJ7_copyOf_59c91_23 rfl ?_
    refine x_iload_n 25 C dJ7_copyOf_59c91_24 rfl rfl rfl ?_
    refine x_mmin 28 C tb_2_77 tb_2_78 tb_1_16 tb_2_79 dJ7_copyOf_59c91_25 rfl (by omega) (by omega) ⟨by decide, Nat.le_of_ble_eq_true rfl⟩ rfl ?_
    rw [if_pos (show (n : Int) < (m : Int) by omega)]
    refine x_acopy 31 C ((su_ne (by omega)).trans hs) (by omega) su_s (by omega) tb_2_80 tb_2_82 tb_2_81 tb_1_17 dJ7_copyOf_59c91_28 rfl (by omega) (by omega) (by omega) (by omega) (by omega) (by omega) ⟨by decide, by decide⟩ rfl ?_
    refine x_aload_n 32 C dJ7_copyOf_59c91_31 rfl rfl rfl ?_
    refine x_aretA A dJ7_copyOf_59c91_32 (Or.inr ⟨_, rfl⟩) ⟨rfl, rfl, rfl, ?_⟩
    funext a b
    simp only [Int.toNat_zero, Nat.zero_le, true_and, Nat.zero_add, Nat.sub_zero, Int.toNat_natCast]--END
  exfalso; omega--END

theorem pPart_lt {b : Nat → Int} {n : Nat} {key : Int} (hk : key ≠ 0) {p p' : Nat} {L : List Int} (hp : p ≤ n) (h : pPart b n key p = .inl (p', L)) : p + L.length < p' ∧ p' ≤ n := by
  unfold pPart at h
  split at h
  · rename_i ht
    obtain ⟨c1, c2⟩ := GQ_tok hp (show lxT b n p ≠ 0 by omega)
    split at h
    · cases h
    · rename_i p1 L1 hr
      obtain ⟨a1, a2, a3, a4⟩ := (parse_GQ b n 5).2.2 _ c2 _ _ hr
      split at h
      · rename_i t59
        simp only [Sum.inl.injEq, Prod.mk.injEq] at h
        obtain ⟨rfl, rfl⟩ := h
        obtain ⟨d1, d2⟩ := GQ_tok a2 (show lxT b n p1 ≠ 0 by omega)
        exact ⟨by omega, d2⟩
      · cases h
  · cases h
theorem HZ_FRc {N : Nat} {σ s : Sig} (h : FRc σ s) (hz : HZ N σ) (hN : 31 ≤ N) : HZ N s := fun a h1 h2 i => by
  rw [h.1 a i (by omega) (by omega), h.1 (a + 1000) i (by omega) (by omega)]
  exact hz a h1 h2 i
/-- what Reader.read answers -/
def RDp (σ : Sig) (n N : Nat) (sh : Nat → Shc) (r : Option Value) (ρ' : Nat → Nat) (N' : Nat) (sh' : Nat → Shc) (σ' : Sig) : Prop := match pText (σ 29) n with
  | .inr a => r = some .null ∧ N' = N ∧ sh' = sh ∧ FRc σ σ' ∧ σ' 28 2 = a
  | .inl (L1, L2, L3) => r = some (.ref (ρ' N)) ∧ N' = N + 3 ∧ sh' = sh_X7_init (su (su sh N (cO 7 [2, 0, 0, 2])) (N + 1) (cA (L1 ++ L2 ++ L3).length)) (N + 2) N (N + 1) ∧ (∀ a, a ≠ 28 → a ≠ 30 → a ≠ N → a ≠ N + 1 → σ' a = σ a) ∧ (∀ b, b ≠ 2 → b ≠ 3 → b ≠ 4 → b ≠ 5 → b ≠ 7 → σ' 28 b = σ 28 b) ∧ σ' N 1 = (L1.length : Int) ∧ σ' N 2 = ((L1.length + L2.length : Nat) : Int) ∧ (∀ i x, (L1 ++ L2 ++ L3)[i]? = some x → σ' (N + 1) i = x) ∧ (L1 ++ L2 ++ L3).length < 160
theorem RDp_bad {σ s : Sig} {n N a : Nat} {sh : Nat → Shc} {ρ : Nat → Nat} (h : pText (σ 29) n = .inr a) (hF : RF σ a s) : RDp σ n N sh (some .null) ρ N sh s := by
  unfold RDp
  rw [h]
  exact ⟨rfl, rfl, rfl, hF.1, hF.2.1⟩
set_option maxHeartbeats 4000000 in
set_option maxRecDepth 100000 in
theorem c_X5_read {l : Launch} {G : Gt} {ρ : Nat → Nat} {N : Nat} {sh : Nat → Shc} {σ : Sig} {n : Nat} (hwf : Wf N sh) (hn : σ 28 1 = n) (hn1 : n ≤ 160) (hN : N < 890) (hz : HZ N σ) (hW : RW N sh) : MXA l yX5_read cX5_read 3 (some (.object "FirstSeen$Text")) 51 1228 3 204 G N ρ sh [.ref (ρ 28)] σ (RDp σ n N sh) := by
  refine MXA_of [some (.ref (ρ 28)), none, none] hwf (by decide +kernel) rfl rfl (Nat.le_of_ble_eq_true rfl) ?_
  intro K hKl A hci hRng
  subst hKl
  have C := A.1
  refine x_aload_n 1 C dX5_read_0 rfl rfl rfl ?_
  refine x_iconst 2 C dX5_read_1 rfl ?_
  refine x_puti (j := 3) tyX5 5 C hW.2.1 (by have := hW.1; omega) rfl rfl (by decide) inT5 tyX5_ok nmX5 tb_1_156 rfl rfl rfl dX5_read_2 rfl (by omega) ?_
  refine x_aload_n 6 C dX5_read_5 rfl rfl rfl ?_
  refine x_iconst 7 C dX5_read_6 rfl ?_
  refine x_puti (j := 7) tyX5 10 C hW.2.1 (by have := hW.1; omega) rfl rfl (by decide) inT5 tyX5_ok nmX5 tb_1_160 rfl rfl rfl dX5_read_7 rfl (by omega) ?_
  refine x_aload_n 11 C dX5_read_10 rfl rfl rfl ?_
  refine x_callVv 14 C dX5_read_11 rfl (c_X5_advance (n := n) (p := 0) (by rw [up_i (by omega), up_i (by omega)]; exact hn) hn1 (by rw [up_i (by omega), up_s]; rfl) (Nat.zero_le _) hW) hW.2.1 (by have := hW.1; omega) rfl tb_1_237 tb_1_239 tb_0_0 tb_1_9 tb_2_0 (na := 0) (by decide +kernel) rfl ⟨by decide, by decide⟩ rfl (Nat.le_of_ble_eq_true rfl) rfl (fun s11 hq11 hR11 => ?_)
  obtain ⟨k1, k2⟩ := hq11
  have hS0 : RS σ n 0 [] s11 := ⟨⟨fun a b h1 h2 => by rw [k1.1 a b h1, up_r h1, up_r h1], fun b h1 h2 h3 h4 h5 => by rw [k1.2 b h1 h2 h3 h4, up_i h5, up_i h2]⟩, hn, Nat.zero_le _, hn1, k2, by rw [k1.2 7 (by omega) (by omega) (by omega) (by omega), up_s]; rfl, Nat.zero_le _, fun i x h => by simp at h⟩
  refine x_aload_n 15 C dX5_read_14 rfl rfl rfl ?_
  refine x_iconst 16 C dX5_read_15 rfl ?_
  refine x_callVi 19 C dX5_read_16 rfl (c_X5_readPart hS0 (Nat.zero_le _) (by omega) hW) hW.2.1 (by have := hW.1; omega) rfl tb_2_25 tb_2_27 tb_0_4 tb_1_9 tb_2_28 (na := 1) (by decide +kernel) rfl ⟨by decide, by decide⟩ rfl (Nat.le_of_ble_eq_true rfl) rfl (fun z16 s16 hz16 hq16 hR16 => ?_)
  have h01 := PP_01 hq16
  refine x_if_ne 24 22 C dX5_read_19 rfl rfl (by omega) (fun h19 => ?_) (fun h19 => ?_)
  rotate_left
  · obtain ⟨a, hbad, hF⟩ : ∃ a, pText (σ 29) n = .inr a ∧ RF σ a s16 := by
      rcases PP_cases hq16 with ⟨p1, L1, e1, e2, e3⟩ | ⟨a, e1, e2, e3⟩
      · omega
      · exact ⟨a, by unfold pText; rw [e1], e3⟩
    refine x_null 23 C dX5_read_22 rfl ?_
    exact x_nretA A dX5_read_23 (Or.inl ⟨_, rfl⟩) (RDp_bad hbad hF)--END
  obtain ⟨p1, L1, hr1, hS1⟩ : ∃ p' L', pPart (σ 29) n 4 0 = .inl (p', L') ∧ RS σ n p' (L') s16 := by
    rcases PP_cases hq16 with ⟨p1, L1, e1, e2, e3⟩ | ⟨a, e1, e2, e3⟩
    · exact ⟨p1, L1, e1, by simpa using e3⟩
    · omega
  have g1 := pPart_lt (by decide) (Nat.zero_le _) hr1
  refine x_aload_n 25 C dX5_read_24 rfl rfl rfl ?_
  refine x_geti (j := 7) 28 C hW.2.1 (by have := hW.1; omega) rfl rfl (by decide) inT5 tb_1_160 rfl dX5_read_25 rfl (fun r25 => ?_)
  rw [(RS_cs hS1).1] at r25 ⊢
  refine x_istore_n1 29 C dX5_read_28 rfl rfl ?_
  refine x_aload_n 30 C dX5_read_29 rfl rfl rfl ?_
  refine x_iconst 31 C dX5_read_30 rfl ?_
  refine x_callVi 34 C dX5_read_31 rfl (c_X5_readPart hS1 (by omega) (by omega) hW) hW.2.1 (by have := hW.1; omega) rfl tb_2_25 tb_2_27 tb_0_4 tb_1_9 tb_2_28 (na := 1) (by decide +kernel) rfl ⟨by decide, by decide⟩ rfl (Nat.le_of_ble_eq_true rfl) rfl (fun z31 s31 hz31 hq31 hR31 => ?_)
  have h01 := PP_01 hq31
  refine x_if_ne 39 37 C dX5_read_34 rfl rfl (by omega) (fun h34 => ?_) (fun h34 => ?_)
  rotate_left
  · obtain ⟨a, hbad, hF⟩ : ∃ a, pText (σ 29) n = .inr a ∧ RF σ a s31 := by
      rcases PP_cases hq31 with ⟨p1, L1, e1, e2, e3⟩ | ⟨a, e1, e2, e3⟩
      · omega
      · exact ⟨a, by unfold pText; rw [hr1]; dsimp only; rw [e1], e3⟩
    refine x_null 38 C dX5_read_37 rfl ?_
    exact x_nretA A dX5_read_38 (Or.inl ⟨_, rfl⟩) (RDp_bad hbad hF)--END
  obtain ⟨p2, L2, hr2, hS2⟩ : ∃ p' L', pPart (σ 29) n 5 p1 = .inl (p', L') ∧ RS σ n p' (L1 ++ L') s31 := by
    rcases PP_cases hq31 with ⟨p1, L1, e1, e2, e3⟩ | ⟨a, e1, e2, e3⟩
    · exact ⟨p1, L1, e1, by simpa using e3⟩
    · omega
  have g2 := pPart_lt (by decide) g1.2 hr2
  refine x_aload_n 40 C dX5_read_39 rfl rfl rfl ?_
  refine x_geti (j := 7) 43 C hW.2.1 (by have := hW.1; omega) rfl rfl (by decide) inT5 tb_1_160 rfl dX5_read_40 rfl (fun r40 => ?_)
  rw [(RS_cs hS2).1] at r40 ⊢
  refine x_istore_n2 44 C dX5_read_43 rfl rfl ?_
  refine x_aload_n 45 C dX5_read_44 rfl rfl rfl ?_
  refine x_bipush 47 C dX5_read_45 rfl rfl ?_
  refine x_callVi 50 C dX5_read_47 rfl (c_X5_readPart hS2 (by simp only [List.length_append]; omega) (by omega) hW) hW.2.1 (by have := hW.1; omega) rfl tb_2_25 tb_2_27 tb_0_4 tb_1_9 tb_2_28 (na := 1) (by decide +kernel) rfl ⟨by decide, by decide⟩ rfl (Nat.le_of_ble_eq_true rfl) rfl (fun z47 s47 hz47 hq47 hR47 => ?_)
  have h01 := PP_01 hq47
  refine x_if_eq 60 53 C dX5_read_50 rfl rfl (by omega) (fun h50 => ?_) (fun h50 => ?_)
  · obtain ⟨a, hbad, hF⟩ : ∃ a, pText (σ 29) n = .inr a ∧ RF σ a s47 := by
      rcases PP_cases hq47 with ⟨p1, L1, e1, e2, e3⟩ | ⟨a, e1, e2, e3⟩
      · omega
      · exact ⟨a, by unfold pText; rw [hr1]; dsimp only; rw [hr2]; dsimp only; rw [e1], e3⟩
    refine x_null 61 C dX5_read_60 rfl ?_
    exact x_nretA A dX5_read_61 (Or.inl ⟨_, rfl⟩) (RDp_bad hbad hF)--END
  obtain ⟨p3, L3, hr3, hS3⟩ : ∃ p' L', pPart (σ 29) n 6 p2 = .inl (p', L') ∧ RS σ n p' (L1 ++ L2 ++ L') s47 := by
    rcases PP_cases hq47 with ⟨p1, L1, e1, e2, e3⟩ | ⟨a, e1, e2, e3⟩
    · exact ⟨p1, L1, e1, by simpa using e3⟩
    · omega
  have g3 := pPart_lt (by decide) g2.2 hr3
  refine x_aload_n 54 C dX5_read_53 rfl rfl rfl ?_
  refine x_geti (j := 4) 57 C hW.2.1 (by have := hW.1; omega) rfl rfl (by decide) inT5 tb_1_157 rfl dX5_read_54 rfl (fun r54 => ?_)
  refine x_if_eq 62 60 C dX5_read_57 rfl rfl (by omega) (fun h57 => ?_) (fun h57 => ?_)
  · have hgood : pText (σ 29) n = .inl (L1, L2, L3) := by
      unfold pText; rw [hr1]; dsimp only; rw [hr2]; dsimp only; rw [hr3]; dsimp only; rw [if_pos (by rw [← RS_tok hS3]; exact h57)]
    have hcs := RS_cs hS3
    have hlen : (L1 ++ L2 ++ L3).length = L1.length + L2.length + L3.length := by simp only [List.length_append]
    have hlen2 : (L1 ++ L2).length = L1.length + L2.length := by simp only [List.length_append]
    have hlt : (L1 ++ L2 ++ L3).length < 160 := by omega
    have hz47 : HZ N s47 := HZ_FRc hS3.1 hz hW.1
    have hW31 := hW.1
    refine x_new (ci := 7) (nF := 4) (fds := [2, 0, 0, 2]) (a := 2) (b := 200) (lvf := fun ρ => [some (.ref (ρ 28)), some (.int (iZ (L1.length : Int))), some (.int (iZ ((L1 ++ L2).length : Int)))]) (stf := fun ρ => []) tyX7 65 A (by omega) rfl inT7 tyX7_ok tb_2_65 tb_2_66 tb_1_14 (by decide +kernel) rfl (by decide) (fun j => hz47 _ (by omega) (by omega) j) (fun ρ' h => ⟨by first | rfl | simp only [h 28 (by omega)], by first | rfl | simp only [h 28 (by omega)]⟩) dX5_read_62 rfl (fun K ρ hKl hρ A => ?_)
    show Ex K G (N + 1) ρ (su (sh) N (cO 7 [2, 0, 0, 2])) 65 [some (.ref (ρ 28)), some (.int (iZ (L1.length : Int))), some (.int (iZ ((L1 ++ L2).length : Int)))] [.ref (ρ N)] (s47)
    refine x_dup 66 A.1 dX5_read_65 rfl rfl ?_
    refine x_aload_n 67 A.1 dX5_read_66 rfl rfl rfl ?_
    refine x_getr (j := 6) 70 A.1 ((su_ne (by omega)).trans hW.2.1) (by omega) rfl rfl (by decide) inT5 tb_1_159 rfl dX5_read_67 rfl ?_
    refine x_aload_n 71 A.1 dX5_read_70 rfl rfl rfl ?_
    refine x_geti (j := 7) 74 A.1 ((su_ne (by omega)).trans hW.2.1) (by omega) rfl rfl (by decide) inT5 tb_1_160 rfl dX5_read_71 rfl (fun r71 => ?_)
    rw [hcs.1]
    replace A := AL_le (a' := 1 + 1) (b' := 40 + (0 + (L1 ++ L2 ++ L3).length)) A (by omega) (by omega)
    refine x_callTA (a := 1) (b := 40) (lvf := fun ρ => [some (.ref (ρ 28)), some (.int (iZ (L1.length : Int))), some (.int (iZ ((L1 ++ L2).length : Int)))]) (stf := fun ρ => [.ref (ρ N), .ref (ρ N)]) 77 A dX5_read_74 rfl (c_J7_copyOf_59c91 (q := 30) (m := 160) (n := (L1 ++ L2 ++ L3).length) A.2.2.2.2.2 ((su_ne (by omega)).trans hW.2.2.2) (by omega) (by omega) hlt (by omega) (HZ_mono hz47 (by omega))) tb_2_67 tb_2_68 tb_1_15 tb_2_69 (by decide +kernel) (na := 2) rfl ⟨by decide, by decide⟩ rfl (Nat.le_of_ble_eq_true rfl) rfl (fun ρ' h => ⟨by first | rfl | simp only [h 28 (by omega), h N (by omega)], by first | rfl | simp only [h 28 (by omega), h N (by omega)]⟩) (fun K r ρ N' sh' σ1 hKl hq hρ hNN A hR1 => ?_)
    obtain ⟨rfl, rfl, rfl, rfl⟩ := hq
    have C := A.1
    show Ex K G (N + 2) ρ (su (su (sh) N (cO 7 [2, 0, 0, 2])) (N + 1) (cA (L1 ++ L2 ++ L3).length)) 77 [some (.ref (ρ 28)), some (.int (iZ (L1.length : Int))), some (.int (iZ ((L1 ++ L2).length : Int)))] [.ref (ρ (N + 1)), .ref (ρ N), .ref (ρ N)] (fun a b => if a = N + 1 ∧ b < (L1 ++ L2 ++ L3).length then s47 30 b else s47 a b)
    have hz1 : HZ (N + 2) (fun a b => if a = N + 1 ∧ b < (L1 ++ L2 ++ L3).length then s47 30 b else s47 a b) := fun a h1 h2 i => by
      show (if a = N + 1 ∧ i < _ then s47 30 i else s47 a i) = 0 ∧ (if a + 1000 = N + 1 ∧ i < _ then s47 30 i else s47 (a + 1000) i) = 0
      rw [if_neg (by omega), if_neg (by omega)]
      exact hz47 a (by omega) h2 i
    refine x_iload_n 78 A.1 dX5_read_77 rfl rfl rfl ?_
    refine x_iload_n 79 A.1 dX5_read_78 rfl rfl rfl ?_
    replace A := AL_le (a' := 0 + 1) (b' := 0 + 40) A (by omega) (by omega)
    refine x_callIA (a := 0) (b := 0) (lvf := fun ρ => [some (.ref (ρ 28)), some (.int (iZ (L1.length : Int))), some (.int (iZ ((L1 ++ L2).length : Int)))]) (stf := fun ρ => [.ref (ρ N)]) 82 A dX5_read_79 rfl (c_X7_init (t := N) (q := N + 1) (v := (L1.length : Int)) (w := ((L1 ++ L2).length : Int)) (by omega) (by omega) (by omega) A.2.2.2.2.2 (by omega) (by omega) ((su_ne (by omega)).trans su_s) hz1) tb_2_83 tb_2_84 tb_1_14 tb_2_85 rfl (by decide +kernel) (na := 3) rfl ⟨by decide, by decide⟩ rfl (Nat.le_of_ble_eq_true rfl) rfl (fun ρ' h => ⟨by first | rfl | simp only [h 28 (by omega), h N (by omega)], by first | rfl | simp only [h 28 (by omega), h N (by omega)]⟩) (fun K r ρ N' sh' σ1 hKl hq hρ hNN A hR1 => ?_)
    obtain ⟨rfl, rfl, rfl, rfl⟩ := hq
    show Ex K G (N + 3) ρ _ 82 [some (.ref (ρ 28)), some (.int (iZ (L1.length : Int))), some (.int (iZ ((L1 ++ L2).length : Int)))] [.ref (ρ N)] _
    refine x_aretA A dX5_read_82 (Or.inl ⟨_, rfl⟩) ?_
    show RDp σ n N sh (some (.ref (ρ N))) ρ (N + 3) _ _
    unfold RDp
    rw [hgood]
    refine ⟨rfl, rfl, rfl, fun a h1 h2 h3 h4 => ?_, fun b h1 h2 h3 h4 h5 => ?_, ?_, ?_, fun i x hi => ?_, hlt⟩
    · rw [up_row h3, up_row h3]
      funext b
      show (if a = N + 1 ∧ b < _ then s47 30 b else s47 a b) = σ a b
      rw [if_neg (by omega)]
      exact hS3.1.1 a b h1 h2
    · rw [up_r (by omega), up_r (by omega)]
      show (if 28 = N + 1 ∧ b < _ then s47 30 b else s47 28 b) = σ 28 b
      rw [if_neg (by omega)]
      exact hS3.1.2 b h1 h2 h3 h4 h5
    · rw [up_i (by omega), up_s]
    · rw [up_s, hlen2]
    · rw [up_r (by omega), up_r (by omega)]
      show (if N + 1 = N + 1 ∧ i < _ then s47 30 i else s47 (N + 1) i) = x
      rw [if_pos ⟨rfl, (List.getElem?_eq_some_iff.mp hi).1⟩]
      exact hS3.2.2.2.2.2.2.2 i x hi--END
  obtain ⟨a, hbad, hF⟩ : ∃ a, pText (σ 29) n = .inr a ∧ RF σ a s47 := ⟨_, by
    unfold pText; rw [hr1]; dsimp only; rw [hr2]; dsimp only; rw [hr3]; dsimp only; rw [if_neg (by rw [← RS_tok hS3]; exact h57)], RS_RF hS3⟩
  refine x_null 61 C dX5_read_60 rfl ?_
  exact x_nretA A dX5_read_61 (Or.inl ⟨_, rfl⟩) (RDp_bad hbad hF)--END
