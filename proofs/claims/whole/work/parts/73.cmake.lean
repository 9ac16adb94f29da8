theorem up_at2 {σ : Sig} {t i a j : Nat} {v : Int} : up σ t i v a j = if a = t ∧ j = i then v else σ a j := by
  by_cases h : a = t
  · subst h; by_cases h2 : j = i
    · rw [h2, up_s, if_pos ⟨rfl, rfl⟩]
    · rw [up_i h2, if_neg (fun q => h2 q.2)]
  · rw [up_r h, if_neg (fun q => h q.1)]
def shA1 (sh : Nat → Shc) : Nat → Shc := su (sh) 1 (cO 9 [2, 0, 0, 0, 2, 2, 2, 2, 0, 2, 2, 2, 2])
def shA2 (sh : Nat → Shc) : Nat → Shc := sh_X9_init (shA1 sh) 2 1
def shA3 (sh : Nat → Shc) : Nat → Shc := su (shA2 sh) 0 (cO 11 [1 + 3, 2, 0, 2, 2, 2, 0, 2, 2, 0, 0, 0])
def shA4 (sh : Nat → Shc) : Nat → Shc := su (shA3 sh) 11 (cO 9 [2, 0, 0, 0, 2, 2, 2, 2, 0, 2, 2, 2, 2])
def shA5 (sh : Nat → Shc) : Nat → Shc := sh_X9_init (shA4 sh) 12 11
def shA6 (sh : Nat → Shc) : Nat → Shc := su (shA5 sh) 0 (cO 11 [1 + 3, 11 + 3, 0, 2, 2, 2, 0, 2, 2, 0, 0, 0])
def shA7 (sh : Nat → Shc) : Nat → Shc := su (shA6 sh) 21 (cR 0 6 (fun _ => none))
def shA8 (sh : Nat → Shc) : Nat → Shc := su (shA7 sh) 22 (cO 8 [])
def shA9 (sh : Nat → Shc) : Nat → Shc := su (shA8 sh) 21 (cR 0 6 (va_up (fun _ => none) (0 : Int).toNat (some 22)))
def shA10 (sh : Nat → Shc) : Nat → Shc := su (shA9 sh) 23 (cO 10 [])
def shA11 (sh : Nat → Shc) : Nat → Shc := su (shA10 sh) 21 (cR 0 6 (va_up (va_up (fun _ => none) (0 : Int).toNat (some 22)) (1 : Int).toNat (some 23)))
def shA12 (sh : Nat → Shc) : Nat → Shc := su (shA11 sh) 24 (cO 4 [])
def shA13 (sh : Nat → Shc) : Nat → Shc := su (shA12 sh) 21 (cR 0 6 (va_up (va_up (va_up (fun _ => none) (0 : Int).toNat (some 22)) (1 : Int).toNat (some 23)) (2 : Int).toNat (some 24)))
def shA14 (sh : Nat → Shc) : Nat → Shc := su (shA13 sh) 25 (cO 0 [])
def shA15 (sh : Nat → Shc) : Nat → Shc := su (shA14 sh) 21 (cR 0 6 (va_up (va_up (va_up (va_up (fun _ => none) (0 : Int).toNat (some 22)) (1 : Int).toNat (some 23)) (2 : Int).toNat (some 24)) (3 : Int).toNat (some 25)))
def shA16 (sh : Nat → Shc) : Nat → Shc := su (shA15 sh) 26 (cO 1 [])
def shA17 (sh : Nat → Shc) : Nat → Shc := su (shA16 sh) 21 (cR 0 6 (va_up (va_up (va_up (va_up (va_up (fun _ => none) (0 : Int).toNat (some 22)) (1 : Int).toNat (some 23)) (2 : Int).toNat (some 24)) (3 : Int).toNat (some 25)) (4 : Int).toNat (some 26)))
def shA18 (sh : Nat → Shc) : Nat → Shc := su (shA17 sh) 27 (cO 2 [])
def shA19 (sh : Nat → Shc) : Nat → Shc := su (shA18 sh) 21 (cR 0 6 (va_up (va_up (va_up (va_up (va_up (va_up (fun _ => none) (0 : Int).toNat (some 22)) (1 : Int).toNat (some 23)) (2 : Int).toNat (some 24)) (3 : Int).toNat (some 25)) (4 : Int).toNat (some 26)) (5 : Int).toNat (some 27)))
def shA20 (sh : Nat → Shc) : Nat → Shc := su (shA19 sh) 0 (cO 11 [1 + 3, 11 + 3, 0, 21 + 3, 2, 2, 0, 2, 2, 0, 0, 0])
def shA21 (sh : Nat → Shc) : Nat → Shc := su (shA20 sh) 28 (cO 5 [2, 0, 0, 0, 0, 0, 2, 0])
def shA22 (sh : Nat → Shc) : Nat → Shc := sh_X5_init (shA21 sh) 29 28
def shA23 (sh : Nat → Shc) : Nat → Shc := su (shA22 sh) 0 (cO 11 [1 + 3, 11 + 3, 0, 21 + 3, 28 + 3, 2, 0, 2, 2, 0, 0, 0])
def shA24 (sh : Nat → Shc) : Nat → Shc := su (shA23 sh) 31 (cR 1 6 (fun _ => none))
def shA25 (sh : Nat → Shc) : Nat → Shc := su (shA24 sh) 0 (cO 11 [1 + 3, 11 + 3, 0, 21 + 3, 28 + 3, 31 + 3, 0, 2, 2, 0, 0, 0])
def shA26 (sh : Nat → Shc) : Nat → Shc := sh_X7_init (su (su (shA25 sh) 32 (cO 7 [2, 0, 0, 2])) (32 + 1) (cA ([1] ++ [0] ++ [23, -2, -13] : List Int).length)) (32 + 2) 32 (32 + 1)
def shA27 (sh : Nat → Shc) : Nat → Shc := su (shA26 sh) 31 (cR 1 6 (va_up (fun _ => none) (0 : Int).toNat (some 32)))
def shA28 (sh : Nat → Shc) : Nat → Shc := su (shA27 sh) 35 (cO 3 [2, 2, 2, 2, 2, 2, 2, 2, 2, 2, 2, 2, 0, 0])
def shA29 (sh : Nat → Shc) : Nat → Shc := sh_X3_init (shA28 sh) 36 35 1 21 31
def shA30 (sh : Nat → Shc) : Nat → Shc := su (shA29 sh) 0 (cO 11 [1 + 3, 11 + 3, 0, 21 + 3, 28 + 3, 31 + 3, 0, 35 + 3, 2, 0, 0, 0])
def shA31 (sh : Nat → Shc) : Nat → Shc := su (shA30 sh) 45 (cR 2 4 (fun _ => none))
def shA32 (sh : Nat → Shc) : Nat → Shc := su (shA31 sh) 0 (cO 11 [1 + 3, 11 + 3, 0, 21 + 3, 28 + 3, 31 + 3, 0, 35 + 3, 45 + 3, 0, 0, 0])
def shA33 (sh : Nat → Shc) : Nat → Shc := su (shA32 sh) 46 (cO 6 [2, 0, 0])
def shA34 (sh : Nat → Shc) : Nat → Shc := sh_X6_init (shA33 sh) 47 46
def shA35 (sh : Nat → Shc) : Nat → Shc := su (shA34 sh) 45 (cR 2 4 (va_up (fun _ => none) (0 : Int).toNat (some 46)))
def shA36 (sh : Nat → Shc) : Nat → Shc := su (shA35 sh) 48 (cO 6 [2, 0, 0])
def shA37 (sh : Nat → Shc) : Nat → Shc := sh_X6_init (shA36 sh) 49 48
def shA38 (sh : Nat → Shc) : Nat → Shc := su (shA37 sh) 45 (cR 2 4 (va_up (va_up (fun _ => none) (0 : Int).toNat (some 46)) ((1 : Int) : Int).toNat (some 48)))
def shA39 (sh : Nat → Shc) : Nat → Shc := su (shA38 sh) 50 (cO 6 [2, 0, 0])
def shA40 (sh : Nat → Shc) : Nat → Shc := sh_X6_init (shA39 sh) 51 50
def shA41 (sh : Nat → Shc) : Nat → Shc := su (shA40 sh) 45 (cR 2 4 (va_up (va_up (va_up (fun _ => none) (0 : Int).toNat (some 46)) ((1 : Int) : Int).toNat (some 48)) ((2 : Int) : Int).toNat (some 50)))
def shA42 (sh : Nat → Shc) : Nat → Shc := su (shA41 sh) 52 (cO 6 [2, 0, 0])
def shA43 (sh : Nat → Shc) : Nat → Shc := sh_X6_init (shA42 sh) 53 52
def shA44 (sh : Nat → Shc) : Nat → Shc := su (shA43 sh) 45 (cR 2 4 (va_up (va_up (va_up (va_up (fun _ => none) (0 : Int).toNat (some 46)) ((1 : Int) : Int).toNat (some 48)) ((2 : Int) : Int).toNat (some 50)) ((3 : Int) : Int).toNat (some 52)))
def PX11 (sh : Nat → Shc) (σ : Sig) : Option Value → (Nat → Nat) → Nat → (Nat → Shc) → Sig → Prop := fun r ρ' N' sh' σ' => r = none ∧ N' = 54 ∧ sh' = shA44 sh ∧ (∀ a b, a ≠ 28 → a ≠ 29 → a ≠ 30 → a ≠ 32 → a ≠ 33 → ¬ (a = 0 ∧ b = 6) → ¬ ((a = 46 ∨ a = 48 ∨ a = 50 ∨ a = 52) ∧ b = 1) → σ' a b = σ a b) ∧ σ' 28 1 = 0 ∧ σ' 0 6 = 1 ∧ σ' 32 1 = 1 ∧ σ' 32 2 = 2 ∧ (∀ i x, ([1, 0, 23, -2, -13] : List Int)[i]? = some x → σ' 33 i = x) ∧ (σ' 46 1 = -1 ∧ σ' 48 1 = -1 ∧ σ' 50 1 = -1 ∧ σ' 52 1 = -1)
set_option maxHeartbeats 4000000 in
set_option maxRecDepth 100000 in
theorem c_X11_init {l : Launch} {G : Gt} {ρ0 : Nat → Nat} {sh : Nat → Shc} {σ : Sig} (hwf : Wf 1 sh) (hs : sh 0 = cO 11 [2, 2, 0, 2, 2, 2, 0, 2, 2, 0, 0, 0]) (hz : HZ 1 σ) : MXA l yX11_init cX11_init 2 none 52 1250 53 1300 G 1 ρ0 (sh) [.ref (ρ0 0)] (σ) (PX11 sh σ) := by
  refine MXA_of [some (.ref (ρ0 0)), none] hwf (by decide +kernel) rfl rfl (Nat.le_of_ble_eq_true rfl) ?_
  intro K hKl A hci hRng
  subst hKl
  replace A := AL_I A (hci rfl)
  obtain ⟨ρ, hρ0, A⟩ : ∃ ρ, ρ = ρ0 ∧ AL K G "FirstSeen" cX11_init 2 52 1250 (RtI G 1 ρ0 (PX11 sh σ)) 1 ρ0 1 ρ sh 53 1300 := ⟨_, rfl, A⟩
  rw [← hρ0]
  refine x_aload_n 1 A.1 dX11_init_0 rfl rfl rfl ?_
  refine x_objI 4 A.1 tb_1_26 tb_1_27 tb_1_28 rfl (by decide) (by decide) (Nat.le_of_ble_eq_true rfl) dX11_init_1 rfl ?_
  refine x_aload_n 5 A.1 dX11_init_4 rfl rfl rfl ?_
  refine x_new (ci := 9) (nF := 13) (fds := [2, 0, 0, 0, 2, 2, 2, 2, 0, 2, 2, 2, 2]) (a := 52) (b := 1287) (lvf := fun ρ => [some (.ref (ρ 0)), none]) (stf := fun ρ => [.ref (ρ 0)]) tyX9 8 A (by omega) rfl inT9 tyX9_ok tb_1_29 tb_1_30 tb_1_2 (by decide +kernel) rfl (by decide) (fun j => (HZ_mono hz (show 1 ≤ 1 by decide)) _ (by omega) (by omega) j) (fun ρ' h => ⟨by first | rfl | simp only [h 0 (by omega)], by first | rfl | simp only [h 0 (by omega)]⟩) dX11_init_5 rfl (fun K ρ hKl hρ A => ?_)
  show Ex K G 2 ρ (shA1 sh) 8 [some (.ref (ρ 0)), none] [.ref (ρ 1), .ref (ρ 0)] (σ)
  replace A : AL K G "FirstSeen" cX11_init 2 52 1250 (RtI G 1 ρ0 (PX11 sh σ)) 1 ρ0 2 ρ (shA1 sh) 52 1287 := A
  refine x_dup 9 A.1 dX11_init_8 rfl rfl ?_
  replace A := AL_le (a' := 43 + 9) (b' := 1207 + 80) A (by decide) (by decide)
  refine x_callINA (host := "FirstSeen") (a := 43) (b := 1207) (lvf := fun ρ => [some (.ref (ρ 0)), none]) (stf := fun ρ => [.ref (ρ 1), .ref (ρ 0)]) 12 A dX11_init_9 rfl (c_X9_init (N := 2) (t := 1) A.2.2.2.2.2 (by decide) (by decide) rfl (HZ_mono hz (by decide))) (by decide +kernel) tb_1_32 tb_1_2 tb_1_33 rfl (by decide +kernel) (na := 0) rfl ⟨by decide, by decide⟩ rfl (Nat.le_of_ble_eq_true rfl) rfl (fun ρ' h => ⟨by first | rfl | simp only [h 0 (by omega), h 1 (by omega)], by first | rfl | simp only [h 0 (by omega), h 1 (by omega)]⟩) (fun K r ρ N' sh' σ1 hKl hq hρ hNN A hR1 => ?_)
  obtain ⟨rfl, rfl, rfl, hσ1⟩ := hq
  rw [hσ1]
  show Ex K G 11 ρ (shA2 sh) 12 [some (.ref (ρ 0)), none] [.ref (ρ 1), .ref (ρ 0)] (σ)
  replace A : AL K G "FirstSeen" cX11_init 2 52 1250 (RtI G 1 ρ0 (PX11 sh σ)) 1 ρ0 11 ρ (shA2 sh) 43 1207 := A
  refine x_putFr (j := 0) (l1 := 1) tyX11 15 A.1 A.2.1.2 hs (by omega) (Nat.le_of_ble_eq_true rfl) rfl (by decide) inT11 tyX11_ok nmX11 tb_2_173 rfl rfl rfl rfl (by first | exact Or.inl ⟨_, rfl⟩ | exact Or.inr ⟨_, rfl⟩) dX11_init_12 rfl ?_
  replace A := AL_sh (k := 0) (c := cO 11 [1 + 3, 2, 0, 2, 2, 2, 0, 2, 2, 0, 0, 0]) A (Wf1_O (fun x hx => by simp only [List.mem_cons, List.not_mem_nil, or_false] at hx; omega))
  show Ex K G 11 ρ (shA3 sh) 15 [some (.ref (ρ 0)), none] [] (σ)
  replace A : AL K G "FirstSeen" cX11_init 2 52 1250 (RtI G 1 ρ0 (PX11 sh σ)) 1 ρ0 11 ρ (shA3 sh) 43 1207 := A
  refine x_aload_n 16 A.1 dX11_init_15 rfl rfl rfl ?_
  refine x_new (ci := 9) (nF := 13) (fds := [2, 0, 0, 0, 2, 2, 2, 2, 0, 2, 2, 2, 2]) (a := 42) (b := 1194) (lvf := fun ρ => [some (.ref (ρ 0)), none]) (stf := fun ρ => [.ref (ρ 0)]) tyX9 19 A (by omega) rfl inT9 tyX9_ok tb_1_29 tb_1_30 tb_1_2 (by decide +kernel) rfl (by decide) (fun j => (HZ_mono hz (show 1 ≤ 11 by decide)) _ (by omega) (by omega) j) (fun ρ' h => ⟨by first | rfl | simp only [h 0 (by omega)], by first | rfl | simp only [h 0 (by omega)]⟩) dX11_init_16 rfl (fun K ρ hKl hρ A => ?_)
  show Ex K G 12 ρ (shA4 sh) 19 [some (.ref (ρ 0)), none] [.ref (ρ 11), .ref (ρ 0)] (σ)
  replace A : AL K G "FirstSeen" cX11_init 2 52 1250 (RtI G 1 ρ0 (PX11 sh σ)) 1 ρ0 12 ρ (shA4 sh) 42 1194 := A
  refine x_dup 20 A.1 dX11_init_19 rfl rfl ?_
  replace A := AL_le (a' := 33 + 9) (b' := 1114 + 80) A (by decide) (by decide)
  refine x_callINA (host := "FirstSeen") (a := 33) (b := 1114) (lvf := fun ρ => [some (.ref (ρ 0)), none]) (stf := fun ρ => [.ref (ρ 11), .ref (ρ 0)]) 23 A dX11_init_20 rfl (c_X9_init (N := 12) (t := 11) A.2.2.2.2.2 (by decide) (by decide) rfl (HZ_mono hz (by decide))) (by decide +kernel) tb_1_32 tb_1_2 tb_1_33 rfl (by decide +kernel) (na := 0) rfl ⟨by decide, by decide⟩ rfl (Nat.le_of_ble_eq_true rfl) rfl (fun ρ' h => ⟨by first | rfl | simp only [h 0 (by omega), h 11 (by omega)], by first | rfl | simp only [h 0 (by omega), h 11 (by omega)]⟩) (fun K r ρ N' sh' σ1 hKl hq hρ hNN A hR1 => ?_)
  obtain ⟨rfl, rfl, rfl, hσ1⟩ := hq
  rw [hσ1]
  show Ex K G 21 ρ (shA5 sh) 23 [some (.ref (ρ 0)), none] [.ref (ρ 11), .ref (ρ 0)] (σ)
  replace A : AL K G "FirstSeen" cX11_init 2 52 1250 (RtI G 1 ρ0 (PX11 sh σ)) 1 ρ0 21 ρ (shA5 sh) 33 1114 := A
  refine x_putFr (j := 1) (l1 := 11) tyX11 26 A.1 A.2.1.2 rfl (by omega) (Nat.le_of_ble_eq_true rfl) rfl (by decide) inT11 tyX11_ok nmX11 tb_2_174 rfl rfl rfl rfl (by first | exact Or.inl ⟨_, rfl⟩ | exact Or.inr ⟨_, rfl⟩) dX11_init_23 rfl ?_
  replace A := AL_sh (k := 0) (c := cO 11 [1 + 3, 11 + 3, 0, 2, 2, 2, 0, 2, 2, 0, 0, 0]) A (Wf1_O (fun x hx => by simp only [List.mem_cons, List.not_mem_nil, or_false] at hx; omega))
  show Ex K G 21 ρ (shA6 sh) 26 [some (.ref (ρ 0)), none] [] (σ)
  replace A : AL K G "FirstSeen" cX11_init 2 52 1250 (RtI G 1 ρ0 (PX11 sh σ)) 1 ρ0 21 ρ (shA6 sh) 33 1114 := A
  refine x_aload_n 27 A.1 dX11_init_26 rfl rfl rfl ?_
  refine x_bipush 29 A.1 dX11_init_27 rfl rfl ?_
  refine x_anew0 (len := 6) (a := 32) (b := 1108) (lvf := fun ρ => [some (.ref (ρ 0)), none]) (stf := fun ρ => [.ref (ρ 0)]) 32 A (by omega) tb_1_102 (by decide) (fun ρ' h => ⟨by first | rfl | simp only [h 0 (by omega)], by first | rfl | simp only [h 0 (by omega)]⟩) dX11_init_29 rfl (fun K ρ hKl hρ A => ?_)
  show Ex K G 22 ρ (shA7 sh) 32 [some (.ref (ρ 0)), none] [.ref (ρ 21), .ref (ρ 0)] (σ)
  replace A : AL K G "FirstSeen" cX11_init 2 52 1250 (RtI G 1 ρ0 (PX11 sh σ)) 1 ρ0 22 ρ (shA7 sh) 32 1108 := A
  refine x_dup 33 A.1 dX11_init_32 rfl rfl ?_
  refine x_iconst 34 A.1 dX11_init_33 rfl ?_
  refine x_new (ci := 8) (nF := 0) (fds := []) (a := 31) (b := 1108) (lvf := fun ρ => [some (.ref (ρ 0)), none]) (stf := fun ρ => [.int (iZ 0), .ref (ρ 21), .ref (ρ 21), .ref (ρ 0)]) tyX8 37 A (by omega) rfl inT8 tyX8_ok tb_1_102 tb_1_104 tb_1_3 (by decide +kernel) rfl (by decide) (fun j => (HZ_mono hz (show 1 ≤ 21 by decide)) _ (by omega) (by omega) j) (fun ρ' h => ⟨by first | rfl | simp only [h 0 (by omega), h 21 (by omega)], by first | rfl | simp only [h 0 (by omega), h 21 (by omega)]⟩) dX11_init_34 rfl (fun K ρ hKl hρ A => ?_)
  show Ex K G 23 ρ (shA8 sh) 37 [some (.ref (ρ 0)), none] [.ref (ρ 22), .int (iZ 0), .ref (ρ 21), .ref (ρ 21), .ref (ρ 0)] (σ)
  replace A : AL K G "FirstSeen" cX11_init 2 52 1250 (RtI G 1 ρ0 (PX11 sh σ)) 1 ρ0 23 ρ (shA8 sh) 31 1108 := A
  refine x_dup 38 A.1 dX11_init_37 rfl rfl ?_
  refine x_callIN (host := "FirstSeen") 41 A.1 dX11_init_38 rfl (c_X8_init (t := 22)) (by decide +kernel) tb_1_106 tb_1_3 tb_1_107 rfl (by decide +kernel) (na := 0) rfl ⟨by decide, by decide⟩ rfl (Nat.le_of_ble_eq_true rfl) rfl (fun r s1 hq hR1 => ?_)
  obtain ⟨rfl, hσ1⟩ := hq
  rw [← hσ1]
  show Ex K G 23 ρ (shA8 sh) 41 [some (.ref (ρ 0)), none] [.ref (ρ 22), .int (iZ 0), .ref (ρ 21), .ref (ρ 21), .ref (ρ 0)] (σ)
  replace A : AL K G "FirstSeen" cX11_init 2 52 1250 (RtI G 1 ρ0 (PX11 sh σ)) 1 ρ0 23 ρ (shA8 sh) 31 1108 := A
  refine x_aast0 (i := 0) 42 A.1 rfl (by omega) rfl (by omega) rfl rfl (by decide) (by decide) dX11_init_41 rfl ?_
  replace A := AL_sh (k := 21) (c := cR 0 6 (va_up (fun _ => none) (0 : Int).toNat (some 22))) A (Wf1_R (fun q l h => by unfold va_up at h; (repeat' split at h) <;> first | (cases h; done) | (simp only [Option.some.injEq] at h; omega)))
  show Ex K G 23 ρ (shA9 sh) 42 [some (.ref (ρ 0)), none] [.ref (ρ 21), .ref (ρ 0)] (σ)
  replace A : AL K G "FirstSeen" cX11_init 2 52 1250 (RtI G 1 ρ0 (PX11 sh σ)) 1 ρ0 23 ρ (shA9 sh) 31 1108 := A
  refine x_dup 43 A.1 dX11_init_42 rfl rfl ?_
  refine x_iconst 44 A.1 dX11_init_43 rfl ?_
  refine x_new (ci := 10) (nF := 0) (fds := []) (a := 30) (b := 1108) (lvf := fun ρ => [some (.ref (ρ 0)), none]) (stf := fun ρ => [.int (iZ 1), .ref (ρ 21), .ref (ρ 21), .ref (ρ 0)]) tyX10 47 A (by omega) rfl inT10 tyX10_ok tb_1_110 tb_1_111 tb_1_4 (by decide +kernel) rfl (by decide) (fun j => (HZ_mono hz (show 1 ≤ 23 by decide)) _ (by omega) (by omega) j) (fun ρ' h => ⟨by first | rfl | simp only [h 0 (by omega), h 21 (by omega)], by first | rfl | simp only [h 0 (by omega), h 21 (by omega)]⟩) dX11_init_44 rfl (fun K ρ hKl hρ A => ?_)
  show Ex K G 24 ρ (shA10 sh) 47 [some (.ref (ρ 0)), none] [.ref (ρ 23), .int (iZ 1), .ref (ρ 21), .ref (ρ 21), .ref (ρ 0)] (σ)
  replace A : AL K G "FirstSeen" cX11_init 2 52 1250 (RtI G 1 ρ0 (PX11 sh σ)) 1 ρ0 24 ρ (shA10 sh) 30 1108 := A
  refine x_dup 48 A.1 dX11_init_47 rfl rfl ?_
  refine x_callIN (host := "FirstSeen") 51 A.1 dX11_init_48 rfl (c_X10_init (t := 23)) (by decide +kernel) tb_1_113 tb_1_4 tb_1_114 rfl (by decide +kernel) (na := 0) rfl ⟨by decide, by decide⟩ rfl (Nat.le_of_ble_eq_true rfl) rfl (fun r s1 hq hR1 => ?_)
  obtain ⟨rfl, hσ1⟩ := hq
  rw [← hσ1]
  show Ex K G 24 ρ (shA10 sh) 51 [some (.ref (ρ 0)), none] [.ref (ρ 23), .int (iZ 1), .ref (ρ 21), .ref (ρ 21), .ref (ρ 0)] (σ)
  replace A : AL K G "FirstSeen" cX11_init 2 52 1250 (RtI G 1 ρ0 (PX11 sh σ)) 1 ρ0 24 ρ (shA10 sh) 30 1108 := A
  refine x_aastO (i := 1) 52 A.1 rfl (by omega) rfl (by omega) rfl (by decide +kernel) (by decide) (by decide) dX11_init_51 rfl ?_
  replace A := AL_sh (k := 21) (c := cR 0 6 (va_up (va_up (fun _ => none) (0 : Int).toNat (some 22)) (1 : Int).toNat (some 23))) A (Wf1_R (fun q l h => by unfold va_up at h; (repeat' split at h) <;> first | (cases h; done) | (simp only [Option.some.injEq] at h; omega)))
  show Ex K G 24 ρ (shA11 sh) 52 [some (.ref (ρ 0)), none] [.ref (ρ 21), .ref (ρ 0)] (σ)
  replace A : AL K G "FirstSeen" cX11_init 2 52 1250 (RtI G 1 ρ0 (PX11 sh σ)) 1 ρ0 24 ρ (shA11 sh) 30 1108 := A
  refine x_dup 53 A.1 dX11_init_52 rfl rfl ?_
  refine x_iconst 54 A.1 dX11_init_53 rfl ?_
  refine x_new (ci := 4) (nF := 0) (fds := []) (a := 29) (b := 1108) (lvf := fun ρ => [some (.ref (ρ 0)), none]) (stf := fun ρ => [.int (iZ 2), .ref (ρ 21), .ref (ρ 21), .ref (ρ 0)]) tyX4 57 A (by omega) rfl inT4 tyX4_ok tb_1_117 tb_1_118 tb_1_5 (by decide +kernel) rfl (by decide) (fun j => (HZ_mono hz (show 1 ≤ 24 by decide)) _ (by omega) (by omega) j) (fun ρ' h => ⟨by first | rfl | simp only [h 0 (by omega), h 21 (by omega)], by first | rfl | simp only [h 0 (by omega), h 21 (by omega)]⟩) dX11_init_54 rfl (fun K ρ hKl hρ A => ?_)
  show Ex K G 25 ρ (shA12 sh) 57 [some (.ref (ρ 0)), none] [.ref (ρ 24), .int (iZ 2), .ref (ρ 21), .ref (ρ 21), .ref (ρ 0)] (σ)
  replace A : AL K G "FirstSeen" cX11_init 2 52 1250 (RtI G 1 ρ0 (PX11 sh σ)) 1 ρ0 25 ρ (shA12 sh) 29 1108 := A
  refine x_dup 58 A.1 dX11_init_57 rfl rfl ?_
  refine x_callIN (host := "FirstSeen") 61 A.1 dX11_init_58 rfl (c_X4_init (t := 24)) (by decide +kernel) tb_1_120 tb_1_5 tb_1_121 rfl (by decide +kernel) (na := 0) rfl ⟨by decide, by decide⟩ rfl (Nat.le_of_ble_eq_true rfl) rfl (fun r s1 hq hR1 => ?_)
  obtain ⟨rfl, hσ1⟩ := hq
  rw [← hσ1]
  show Ex K G 25 ρ (shA12 sh) 61 [some (.ref (ρ 0)), none] [.ref (ρ 24), .int (iZ 2), .ref (ρ 21), .ref (ρ 21), .ref (ρ 0)] (σ)
  replace A : AL K G "FirstSeen" cX11_init 2 52 1250 (RtI G 1 ρ0 (PX11 sh σ)) 1 ρ0 25 ρ (shA12 sh) 29 1108 := A
  refine x_aastO (i := 2) 62 A.1 rfl (by omega) rfl (by omega) rfl (by decide +kernel) (by decide) (by decide) dX11_init_61 rfl ?_
  replace A := AL_sh (k := 21) (c := cR 0 6 (va_up (va_up (va_up (fun _ => none) (0 : Int).toNat (some 22)) (1 : Int).toNat (some 23)) (2 : Int).toNat (some 24))) A (Wf1_R (fun q l h => by unfold va_up at h; (repeat' split at h) <;> first | (cases h; done) | (simp only [Option.some.injEq] at h; omega)))
  show Ex K G 25 ρ (shA13 sh) 62 [some (.ref (ρ 0)), none] [.ref (ρ 21), .ref (ρ 0)] (σ)
  replace A : AL K G "FirstSeen" cX11_init 2 52 1250 (RtI G 1 ρ0 (PX11 sh σ)) 1 ρ0 25 ρ (shA13 sh) 29 1108 := A
  refine x_dup 63 A.1 dX11_init_62 rfl rfl ?_
  refine x_iconst 64 A.1 dX11_init_63 rfl ?_
  refine x_new (ci := 0) (nF := 0) (fds := []) (a := 28) (b := 1108) (lvf := fun ρ => [some (.ref (ρ 0)), none]) (stf := fun ρ => [.int (iZ 3), .ref (ρ 21), .ref (ρ 21), .ref (ρ 0)]) tyX0 67 A (by omega) rfl inT0 tyX0_ok tb_1_124 tb_1_125 tb_1_6 (by decide +kernel) rfl (by decide) (fun j => (HZ_mono hz (show 1 ≤ 25 by decide)) _ (by omega) (by omega) j) (fun ρ' h => ⟨by first | rfl | simp only [h 0 (by omega), h 21 (by omega)], by first | rfl | simp only [h 0 (by omega), h 21 (by omega)]⟩) dX11_init_64 rfl (fun K ρ hKl hρ A => ?_)
  show Ex K G 26 ρ (shA14 sh) 67 [some (.ref (ρ 0)), none] [.ref (ρ 25), .int (iZ 3), .ref (ρ 21), .ref (ρ 21), .ref (ρ 0)] (σ)
  replace A : AL K G "FirstSeen" cX11_init 2 52 1250 (RtI G 1 ρ0 (PX11 sh σ)) 1 ρ0 26 ρ (shA14 sh) 28 1108 := A
  refine x_dup 68 A.1 dX11_init_67 rfl rfl ?_
  refine x_callIN (host := "FirstSeen") 71 A.1 dX11_init_68 rfl (c_X0_init (t := 25)) (by decide +kernel) tb_1_127 tb_1_6 tb_1_128 rfl (by decide +kernel) (na := 0) rfl ⟨by decide, by decide⟩ rfl (Nat.le_of_ble_eq_true rfl) rfl (fun r s1 hq hR1 => ?_)
  obtain ⟨rfl, hσ1⟩ := hq
  rw [← hσ1]
  show Ex K G 26 ρ (shA14 sh) 71 [some (.ref (ρ 0)), none] [.ref (ρ 25), .int (iZ 3), .ref (ρ 21), .ref (ρ 21), .ref (ρ 0)] (σ)
  replace A : AL K G "FirstSeen" cX11_init 2 52 1250 (RtI G 1 ρ0 (PX11 sh σ)) 1 ρ0 26 ρ (shA14 sh) 28 1108 := A
  refine x_aastO (i := 3) 72 A.1 rfl (by omega) rfl (by omega) rfl (by decide +kernel) (by decide) (by decide) dX11_init_71 rfl ?_
  replace A := AL_sh (k := 21) (c := cR 0 6 (va_up (va_up (va_up (va_up (fun _ => none) (0 : Int).toNat (some 22)) (1 : Int).toNat (some 23)) (2 : Int).toNat (some 24)) (3 : Int).toNat (some 25))) A (Wf1_R (fun q l h => by unfold va_up at h; (repeat' split at h) <;> first | (cases h; done) | (simp only [Option.some.injEq] at h; omega)))
  show Ex K G 26 ρ (shA15 sh) 72 [some (.ref (ρ 0)), none] [.ref (ρ 21), .ref (ρ 0)] (σ)
  replace A : AL K G "FirstSeen" cX11_init 2 52 1250 (RtI G 1 ρ0 (PX11 sh σ)) 1 ρ0 26 ρ (shA15 sh) 28 1108 := A
  refine x_dup 73 A.1 dX11_init_72 rfl rfl ?_
  refine x_iconst 74 A.1 dX11_init_73 rfl ?_
  refine x_new (ci := 1) (nF := 0) (fds := []) (a := 27) (b := 1108) (lvf := fun ρ => [some (.ref (ρ 0)), none]) (stf := fun ρ => [.int (iZ 4), .ref (ρ 21), .ref (ρ 21), .ref (ρ 0)]) tyX1 77 A (by omega) rfl inT1 tyX1_ok tb_1_131 tb_1_132 tb_1_7 (by decide +kernel) rfl (by decide) (fun j => (HZ_mono hz (show 1 ≤ 26 by decide)) _ (by omega) (by omega) j) (fun ρ' h => ⟨by first | rfl | simp only [h 0 (by omega), h 21 (by omega)], by first | rfl | simp only [h 0 (by omega), h 21 (by omega)]⟩) dX11_init_74 rfl (fun K ρ hKl hρ A => ?_)
  show Ex K G 27 ρ (shA16 sh) 77 [some (.ref (ρ 0)), none] [.ref (ρ 26), .int (iZ 4), .ref (ρ 21), .ref (ρ 21), .ref (ρ 0)] (σ)
  replace A : AL K G "FirstSeen" cX11_init 2 52 1250 (RtI G 1 ρ0 (PX11 sh σ)) 1 ρ0 27 ρ (shA16 sh) 27 1108 := A
  refine x_dup 78 A.1 dX11_init_77 rfl rfl ?_
  refine x_callIN (host := "FirstSeen") 81 A.1 dX11_init_78 rfl (c_X1_init (t := 26)) (by decide +kernel) tb_1_134 tb_1_7 tb_1_135 rfl (by decide +kernel) (na := 0) rfl ⟨by decide, by decide⟩ rfl (Nat.le_of_ble_eq_true rfl) rfl (fun r s1 hq hR1 => ?_)
  obtain ⟨rfl, hσ1⟩ := hq
  rw [← hσ1]
  show Ex K G 27 ρ (shA16 sh) 81 [some (.ref (ρ 0)), none] [.ref (ρ 26), .int (iZ 4), .ref (ρ 21), .ref (ρ 21), .ref (ρ 0)] (σ)
  replace A : AL K G "FirstSeen" cX11_init 2 52 1250 (RtI G 1 ρ0 (PX11 sh σ)) 1 ρ0 27 ρ (shA16 sh) 27 1108 := A
  refine x_aastO (i := 4) 82 A.1 rfl (by omega) rfl (by omega) rfl (by decide +kernel) (by decide) (by decide) dX11_init_81 rfl ?_
  replace A := AL_sh (k := 21) (c := cR 0 6 (va_up (va_up (va_up (va_up (va_up (fun _ => none) (0 : Int).toNat (some 22)) (1 : Int).toNat (some 23)) (2 : Int).toNat (some 24)) (3 : Int).toNat (some 25)) (4 : Int).toNat (some 26))) A (Wf1_R (fun q l h => by unfold va_up at h; (repeat' split at h) <;> first | (cases h; done) | (simp only [Option.some.injEq] at h; omega)))
  show Ex K G 27 ρ (shA17 sh) 82 [some (.ref (ρ 0)), none] [.ref (ρ 21), .ref (ρ 0)] (σ)
  replace A : AL K G "FirstSeen" cX11_init 2 52 1250 (RtI G 1 ρ0 (PX11 sh σ)) 1 ρ0 27 ρ (shA17 sh) 27 1108 := A
  refine x_dup 83 A.1 dX11_init_82 rfl rfl ?_
  refine x_iconst 84 A.1 dX11_init_83 rfl ?_
  refine x_new (ci := 2) (nF := 0) (fds := []) (a := 26) (b := 1108) (lvf := fun ρ => [some (.ref (ρ 0)), none]) (stf := fun ρ => [.int (iZ 5), .ref (ρ 21), .ref (ρ 21), .ref (ρ 0)]) tyX2 87 A (by omega) rfl inT2 tyX2_ok tb_1_138 tb_1_139 tb_1_8 (by decide +kernel) rfl (by decide) (fun j => (HZ_mono hz (show 1 ≤ 27 by decide)) _ (by omega) (by omega) j) (fun ρ' h => ⟨by first | rfl | simp only [h 0 (by omega), h 21 (by omega)], by first | rfl | simp only [h 0 (by omega), h 21 (by omega)]⟩) dX11_init_84 rfl (fun K ρ hKl hρ A => ?_)
  show Ex K G 28 ρ (shA18 sh) 87 [some (.ref (ρ 0)), none] [.ref (ρ 27), .int (iZ 5), .ref (ρ 21), .ref (ρ 21), .ref (ρ 0)] (σ)
  replace A : AL K G "FirstSeen" cX11_init 2 52 1250 (RtI G 1 ρ0 (PX11 sh σ)) 1 ρ0 28 ρ (shA18 sh) 26 1108 := A
  refine x_dup 88 A.1 dX11_init_87 rfl rfl ?_
  refine x_callIN (host := "FirstSeen") 91 A.1 dX11_init_88 rfl (c_X2_init (t := 27)) (by decide +kernel) tb_1_141 tb_1_8 tb_1_142 rfl (by decide +kernel) (na := 0) rfl ⟨by decide, by decide⟩ rfl (Nat.le_of_ble_eq_true rfl) rfl (fun r s1 hq hR1 => ?_)
  obtain ⟨rfl, hσ1⟩ := hq
  rw [← hσ1]
  show Ex K G 28 ρ (shA18 sh) 91 [some (.ref (ρ 0)), none] [.ref (ρ 27), .int (iZ 5), .ref (ρ 21), .ref (ρ 21), .ref (ρ 0)] (σ)
  replace A : AL K G "FirstSeen" cX11_init 2 52 1250 (RtI G 1 ρ0 (PX11 sh σ)) 1 ρ0 28 ρ (shA18 sh) 26 1108 := A
  refine x_aastO (i := 5) 92 A.1 rfl (by omega) rfl (by omega) rfl (by decide +kernel) (by decide) (by decide) dX11_init_91 rfl ?_
  replace A := AL_sh (k := 21) (c := cR 0 6 (va_up (va_up (va_up (va_up (va_up (va_up (fun _ => none) (0 : Int).toNat (some 22)) (1 : Int).toNat (some 23)) (2 : Int).toNat (some 24)) (3 : Int).toNat (some 25)) (4 : Int).toNat (some 26)) (5 : Int).toNat (some 27))) A (Wf1_R (fun q l h => by unfold va_up at h; (repeat' split at h) <;> first | (cases h; done) | (simp only [Option.some.injEq] at h; omega)))
  show Ex K G 28 ρ (shA19 sh) 92 [some (.ref (ρ 0)), none] [.ref (ρ 21), .ref (ρ 0)] (σ)
  replace A : AL K G "FirstSeen" cX11_init 2 52 1250 (RtI G 1 ρ0 (PX11 sh σ)) 1 ρ0 28 ρ (shA19 sh) 26 1108 := A
  refine x_putFr (j := 3) (l1 := 21) tyX11 95 A.1 A.2.1.2 rfl (by omega) (Nat.le_of_ble_eq_true rfl) rfl (by decide) inT11 tyX11_ok nmX11 tb_2_176 rfl rfl rfl rfl (by first | exact Or.inl ⟨_, rfl⟩ | exact Or.inr ⟨_, rfl⟩) dX11_init_92 rfl ?_
  replace A := AL_sh (k := 0) (c := cO 11 [1 + 3, 11 + 3, 0, 21 + 3, 2, 2, 0, 2, 2, 0, 0, 0]) A (Wf1_O (fun x hx => by simp only [List.mem_cons, List.not_mem_nil, or_false] at hx; omega))
  show Ex K G 28 ρ (shA20 sh) 95 [some (.ref (ρ 0)), none] [] (σ)
  replace A : AL K G "FirstSeen" cX11_init 2 52 1250 (RtI G 1 ρ0 (PX11 sh σ)) 1 ρ0 28 ρ (shA20 sh) 26 1108 := A
  refine x_aload_n 96 A.1 dX11_init_95 rfl rfl rfl ?_
  refine x_new (ci := 5) (nF := 8) (fds := [2, 0, 0, 0, 0, 0, 2, 0]) (a := 25) (b := 1100) (lvf := fun ρ => [some (.ref (ρ 0)), none]) (stf := fun ρ => [.ref (ρ 0)]) tyX5 99 A (by omega) rfl inT5 tyX5_ok tb_1_145 tb_1_146 tb_1_9 (by decide +kernel) rfl (by decide) (fun j => (HZ_mono hz (show 1 ≤ 28 by decide)) _ (by omega) (by omega) j) (fun ρ' h => ⟨by first | rfl | simp only [h 0 (by omega)], by first | rfl | simp only [h 0 (by omega)]⟩) dX11_init_96 rfl (fun K ρ hKl hρ A => ?_)
  show Ex K G 29 ρ (shA21 sh) 99 [some (.ref (ρ 0)), none] [.ref (ρ 28), .ref (ρ 0)] (σ)
  replace A : AL K G "FirstSeen" cX11_init 2 52 1250 (RtI G 1 ρ0 (PX11 sh σ)) 1 ρ0 29 ρ (shA21 sh) 25 1100 := A
  refine x_dup 100 A.1 dX11_init_99 rfl rfl ?_
  replace A := AL_le (a' := 23 + 2) (b' := 780 + 320) A (by decide) (by decide)
  refine x_callINA (host := "FirstSeen") (a := 23) (b := 780) (lvf := fun ρ => [some (.ref (ρ 0)), none]) (stf := fun ρ => [.ref (ρ 28), .ref (ρ 0)]) 103 A dX11_init_100 rfl (c_X5_init (N := 29) (t := 28) A.2.2.2.2.2 (by decide) (by decide) rfl (HZ_mono hz (by decide))) (by decide +kernel) tb_1_148 tb_1_9 tb_1_149 rfl (by decide +kernel) (na := 0) rfl ⟨by decide, by decide⟩ rfl (Nat.le_of_ble_eq_true rfl) rfl (fun ρ' h => ⟨by first | rfl | simp only [h 0 (by omega), h 28 (by omega)], by first | rfl | simp only [h 0 (by omega), h 28 (by omega)]⟩) (fun K r ρ N' sh' σ1 hKl hq hρ hNN A hR1 => ?_)
  obtain ⟨rfl, rfl, rfl, hσ1⟩ := hq
  rw [hσ1]
  show Ex K G 31 ρ (shA22 sh) 103 [some (.ref (ρ 0)), none] [.ref (ρ 28), .ref (ρ 0)] (σ)
  replace A : AL K G "FirstSeen" cX11_init 2 52 1250 (RtI G 1 ρ0 (PX11 sh σ)) 1 ρ0 31 ρ (shA22 sh) 23 780 := A
  refine x_putFr (j := 4) (l1 := 28) tyX11 106 A.1 A.2.1.2 rfl (by omega) (Nat.le_of_ble_eq_true rfl) rfl (by decide) inT11 tyX11_ok nmX11 tb_2_177 rfl rfl rfl rfl (by first | exact Or.inl ⟨_, rfl⟩ | exact Or.inr ⟨_, rfl⟩) dX11_init_103 rfl ?_
  replace A := AL_sh (k := 0) (c := cO 11 [1 + 3, 11 + 3, 0, 21 + 3, 28 + 3, 2, 0, 2, 2, 0, 0, 0]) A (Wf1_O (fun x hx => by simp only [List.mem_cons, List.not_mem_nil, or_false] at hx; omega))
  show Ex K G 31 ρ (shA23 sh) 106 [some (.ref (ρ 0)), none] [] (σ)
  replace A : AL K G "FirstSeen" cX11_init 2 52 1250 (RtI G 1 ρ0 (PX11 sh σ)) 1 ρ0 31 ρ (shA23 sh) 23 780 := A
  refine x_iconst 107 A.1 dX11_init_106 rfl ?_
  refine x_istore_n1 108 A.1 dX11_init_107 rfl rfl ?_
  have hW31 : RW 31 (shA23 sh) := ⟨by decide, rfl, rfl, rfl⟩
  have hk : ∀ s1 : Sig, ((∀ a b, ¬ (a = 29 ∧ b < 38) → ¬ (a = 28 ∧ b = 1) → s1 a b = σ a b) ∧ s1 28 1 = ((38 : Nat) : Int) ∧ ∀ b, b < 38 → s1 29 b = chS 0 b) → Ex K G 31 ρ (shA23 sh) 137 [some (.ref (ρ 0)), some (.int (iZ ((38 : Nat) : Int)))] [] s1 := by
    intro s1 hinv
    obtain ⟨hi1, hi2, hi3⟩ := hinv
    have hz1 : HZ 31 s1 := fun q h1 h2 i => by
      rw [hi1 q i (by omega) (by omega), hi1 (q + 1000) i (by omega) (by omega)]
      exact hz q (by omega) h2 i
    have hpt : pText (s1 29) 38 = .inl ([1], [0], [23, -2, -13]) := by
      rw [pText_cn (b' := chS 0) hi3]
      decide +kernel
    refine x_aload_n 138 A.1 dX11_init_137 rfl rfl rfl ?_
    refine x_bipush 140 A.1 dX11_init_138 rfl rfl ?_
    refine x_anew1 (len := 6) (a := 22) (b := 774) (lvf := fun ρ => [some (.ref (ρ 0)), some (.int (iZ ((38 : Nat) : Int)))]) (stf := fun ρ => [.ref (ρ 0)]) 143 A (by omega) tb_1_231 (by decide) (fun ρ' h => ⟨by first | rfl | simp only [h 0 (by omega)], by first | rfl | simp only [h 0 (by omega)]⟩) dX11_init_140 rfl (fun K ρ hKl hρ A => ?_)
    show Ex K G 32 ρ (shA24 sh) 143 [some (.ref (ρ 0)), some (.int (iZ ((38 : Nat) : Int)))] [.ref (ρ 31), .ref (ρ 0)] (s1)
    replace A : AL K G "FirstSeen" cX11_init 2 52 1250 (RtI G 1 ρ0 (PX11 sh σ)) 1 ρ0 32 ρ (shA24 sh) 22 774 := A
    refine x_putFr (j := 5) (l1 := 31) tyX11 146 A.1 A.2.1.2 rfl (by omega) (Nat.le_of_ble_eq_true rfl) rfl (by decide) inT11 tyX11_ok nmX11 tb_2_178 rfl rfl rfl rfl (by first | exact Or.inl ⟨_, rfl⟩ | exact Or.inr ⟨_, rfl⟩) dX11_init_143 rfl ?_
    replace A := AL_sh (k := 0) (c := cO 11 [1 + 3, 11 + 3, 0, 21 + 3, 28 + 3, 31 + 3, 0, 2, 2, 0, 0, 0]) A (Wf1_O (fun x hx => by simp only [List.mem_cons, List.not_mem_nil, or_false] at hx; omega))
    show Ex K G 32 ρ (shA25 sh) 146 [some (.ref (ρ 0)), some (.int (iZ ((38 : Nat) : Int)))] [] (s1)
    replace A : AL K G "FirstSeen" cX11_init 2 52 1250 (RtI G 1 ρ0 (PX11 sh σ)) 1 ρ0 32 ρ (shA25 sh) 22 774 := A
    refine x_aload_n 147 A.1 dX11_init_146 rfl rfl rfl ?_
    refine x_getr (j := 5) 150 A.1 rfl (by omega) rfl rfl (by decide) inT11 tb_2_178 rfl dX11_init_147 rfl ?_
    refine x_iconst 151 A.1 dX11_init_150 rfl ?_
    refine x_aload_n 152 A.1 dX11_init_151 rfl rfl rfl ?_
    refine x_getr (j := 4) 155 A.1 rfl (by omega) rfl rfl (by decide) inT11 tb_2_177 rfl dX11_init_152 rfl ?_
    replace A := AL_le (a' := 19 + 3) (b' := 570 + 204) A (by decide) (by decide)
    refine x_callVA (a := 19) (b := 570) (lvf := fun ρ => [some (.ref (ρ 0)), some (.int (iZ ((38 : Nat) : Int)))]) (stf := fun ρ => [.int (iZ 0), .ref (ρ 31)]) 158 A dX11_init_155 rfl (c_X5_read (n := 38) A.2.2.2.2.2 hi2 (by decide) (by decide) (HZ_mono hz1 (by decide)) ⟨by decide, rfl, rfl, rfl⟩) rfl (by omega) rfl tb_1_233 tb_1_234 tb_1_235 tb_1_9 tb_1_236 (by decide +kernel) (na := 0) rfl ⟨by decide, by decide⟩ rfl (Nat.le_of_ble_eq_true rfl) rfl (fun ρ' h => ⟨by first | rfl | simp only [h 0 (by omega), h 31 (by omega)], by first | rfl | simp only [h 0 (by omega), h 31 (by omega)]⟩) (fun K r ρ N' sh' s2 hKl hq hρ hNN A hR1 => ?_)
    unfold RDp at hq
    rw [hpt] at hq
    obtain ⟨rfl, rfl, rfl, j1, j2, j3, j4, j5, -⟩ := hq
    have hz2 : HZ 35 s2 := fun q h1 h2 i => by
      rw [j1 q (by omega) (by omega) (by omega) (by omega), j1 (q + 1000) (by omega) (by omega) (by omega) (by omega)]
      exact hz1 q (by omega) h2 i
    show Ex K G 35 ρ (shA26 sh) 158 [some (.ref (ρ 0)), some (.int (iZ ((38 : Nat) : Int)))] [.ref (ρ 32), .int (iZ 0), .ref (ρ 31)] (s2)
    replace A : AL K G "FirstSeen" cX11_init 2 52 1250 (RtI G 1 ρ0 (PX11 sh σ)) 1 ρ0 35 ρ (shA26 sh) 19 570 := A
    refine x_aast1 (i := 0) 159 A.1 rfl (by omega) rfl (by omega) rfl rfl (by decide) (by decide) dX11_init_158 rfl ?_
    replace A := AL_sh (k := 31) (c := cR 1 6 (va_up (fun _ => none) (0 : Int).toNat (some 32))) A (Wf1_R (fun q l h => by unfold va_up at h; (repeat' split at h) <;> first | (cases h; done) | (simp only [Option.some.injEq] at h; omega)))
    show Ex K G 35 ρ (shA27 sh) 159 [some (.ref (ρ 0)), some (.int (iZ ((38 : Nat) : Int)))] [] (s2)
    replace A : AL K G "FirstSeen" cX11_init 2 52 1250 (RtI G 1 ρ0 (PX11 sh σ)) 1 ρ0 35 ρ (shA27 sh) 19 570 := A
    refine x_aload_n 160 A.1 dX11_init_159 rfl rfl rfl ?_
    refine x_getr (j := 4) 163 A.1 rfl (by omega) rfl rfl (by decide) inT11 tb_2_177 rfl dX11_init_160 rfl ?_
    refine x_iconst 164 A.1 dX11_init_163 rfl ?_
    refine x_puti (j := 1) tyX5 167 A.1 rfl (by omega) rfl rfl (by decide) inT5 tyX5_ok nmX5 tb_1_152 rfl rfl rfl dX11_init_164 rfl (by omega) ?_
    refine x_aload_n 168 A.1 dX11_init_167 rfl rfl rfl ?_
    refine x_iconst 169 A.1 dX11_init_168 rfl ?_
    refine x_puti (j := 6) tyX11 172 A.1 rfl (by omega) rfl rfl (by decide) inT11 tyX11_ok nmX11 tb_2_179 rfl rfl rfl dX11_init_169 rfl (by omega) ?_
    refine x_aload_n 173 A.1 dX11_init_172 rfl rfl rfl ?_
    refine x_new (ci := 3) (nF := 14) (fds := [2, 2, 2, 2, 2, 2, 2, 2, 2, 2, 2, 2, 0, 0]) (a := 18) (b := 556) (lvf := fun ρ => [some (.ref (ρ 0)), some (.int (iZ ((38 : Nat) : Int)))]) (stf := fun ρ => [.ref (ρ 0)]) tyX3 176 A (by omega) rfl inT3 tyX3_ok tb_2_101 tb_2_102 tb_1_18 (by decide +kernel) rfl (by decide) (fun j => (HZ_up (a := 0) (i := 6) (HZ_up (a := 28) (i := 1) hz2 (by omega) (by omega)) (by omega) (by omega)) _ (by omega) (by omega) j) (fun ρ' h => ⟨by first | rfl | simp only [h 0 (by omega)], by first | rfl | simp only [h 0 (by omega)]⟩) dX11_init_173 rfl (fun K ρ hKl hρ A => ?_)
    show Ex K G 36 ρ (shA28 sh) 176 [some (.ref (ρ 0)), some (.int (iZ ((38 : Nat) : Int)))] [.ref (ρ 35), .ref (ρ 0)] (up (up (s2) 28 1 0) 0 6 1)
    replace A : AL K G "FirstSeen" cX11_init 2 52 1250 (RtI G 1 ρ0 (PX11 sh σ)) 1 ρ0 36 ρ (shA28 sh) 18 556 := A
    refine x_dup 177 A.1 dX11_init_176 rfl rfl ?_
    refine x_aload_n 178 A.1 dX11_init_177 rfl rfl rfl ?_
    refine x_getr (j := 0) 181 A.1 rfl (by omega) rfl rfl (by decide) inT11 tb_2_173 rfl dX11_init_178 rfl ?_
    refine x_aload_n 182 A.1 dX11_init_181 rfl rfl rfl ?_
    refine x_getr (j := 3) 185 A.1 rfl (by omega) rfl rfl (by decide) inT11 tb_2_176 rfl dX11_init_182 rfl ?_
    refine x_aload_n 186 A.1 dX11_init_185 rfl rfl rfl ?_
    refine x_getr (j := 5) 189 A.1 rfl (by omega) rfl rfl (by decide) inT11 tb_2_178 rfl dX11_init_186 rfl ?_
    have hz3 : HZ 36 (up (up (s2) 28 1 0) 0 6 1) := fun q h1 h2 i => by
      rw [up_r (by omega), up_r (by omega), up_r (by omega), up_r (by omega)]
      exact hz2 q (by omega) h2 i
    replace A := AL_le (a' := 9 + 9) (b' := 263 + 293) A (by decide) (by decide)
    refine x_callIA (a := 9) (b := 263) (lvf := fun ρ => [some (.ref (ρ 0)), some (.int (iZ ((38 : Nat) : Int)))]) (stf := fun ρ => [.ref (ρ 35), .ref (ρ 0)]) 192 A dX11_init_189 rfl (c_X3_init (N := 36) (t := 35) (q := 1) (v := 21) (w := 31) (by decide) (by decide) (by decide) A.2.2.2.2.2 (by decide) (by decide) rfl hz3) tb_2_103 tb_2_104 tb_1_18 tb_2_105 rfl (by decide +kernel) (na := 3) rfl ⟨by decide, by decide⟩ rfl (Nat.le_of_ble_eq_true rfl) rfl (fun ρ' h => ⟨by first | rfl | simp only [h 0 (by omega), h 35 (by omega)], by first | rfl | simp only [h 0 (by omega), h 35 (by omega)]⟩) (fun K r ρ N' sh' σ1 hKl hq hρ hNN A hR1 => ?_)
    obtain ⟨rfl, rfl, rfl, rfl⟩ := hq
    show Ex K G 45 ρ (shA29 sh) 192 [some (.ref (ρ 0)), some (.int (iZ ((38 : Nat) : Int)))] [.ref (ρ 35), .ref (ρ 0)] (up (up (s2) 28 1 0) 0 6 1)
    replace A : AL K G "FirstSeen" cX11_init 2 52 1250 (RtI G 1 ρ0 (PX11 sh σ)) 1 ρ0 45 ρ (shA29 sh) 9 263 := A
    refine x_putFr (j := 7) (l1 := 35) tyX11 195 A.1 A.2.1.2 rfl (by omega) (Nat.le_of_ble_eq_true rfl) rfl (by decide) inT11 tyX11_ok nmX11 tb_2_180 rfl rfl rfl rfl (by first | exact Or.inl ⟨_, rfl⟩ | exact Or.inr ⟨_, rfl⟩) dX11_init_192 rfl ?_
    replace A := AL_sh (k := 0) (c := cO 11 [1 + 3, 11 + 3, 0, 21 + 3, 28 + 3, 31 + 3, 0, 35 + 3, 2, 0, 0, 0]) A (Wf1_O (fun x hx => by simp only [List.mem_cons, List.not_mem_nil, or_false] at hx; omega))
    show Ex K G 45 ρ (shA30 sh) 195 [some (.ref (ρ 0)), some (.int (iZ ((38 : Nat) : Int)))] [] (up (up (s2) 28 1 0) 0 6 1)
    replace A : AL K G "FirstSeen" cX11_init 2 52 1250 (RtI G 1 ρ0 (PX11 sh σ)) 1 ρ0 45 ρ (shA30 sh) 9 263 := A
    refine x_aload_n 196 A.1 dX11_init_195 rfl rfl rfl ?_
    refine x_iconst 197 A.1 dX11_init_196 rfl ?_
    refine x_anew2 (len := 4) (a := 8) (b := 259) (lvf := fun ρ => [some (.ref (ρ 0)), some (.int (iZ ((38 : Nat) : Int)))]) (stf := fun ρ => [.ref (ρ 0)]) 200 A (by omega) tb_2_153 (by decide) (fun ρ' h => ⟨by first | rfl | simp only [h 0 (by omega)], by first | rfl | simp only [h 0 (by omega)]⟩) dX11_init_197 rfl (fun K ρ hKl hρ A => ?_)
    show Ex K G 46 ρ (shA31 sh) 200 [some (.ref (ρ 0)), some (.int (iZ ((38 : Nat) : Int)))] [.ref (ρ 45), .ref (ρ 0)] (up (up (s2) 28 1 0) 0 6 1)
    replace A : AL K G "FirstSeen" cX11_init 2 52 1250 (RtI G 1 ρ0 (PX11 sh σ)) 1 ρ0 46 ρ (shA31 sh) 8 259 := A
    refine x_putFr (j := 8) (l1 := 45) tyX11 203 A.1 A.2.1.2 rfl (by omega) (Nat.le_of_ble_eq_true rfl) rfl (by decide) inT11 tyX11_ok nmX11 tb_2_181 rfl rfl rfl rfl (by first | exact Or.inl ⟨_, rfl⟩ | exact Or.inr ⟨_, rfl⟩) dX11_init_200 rfl ?_
    replace A := AL_sh (k := 0) (c := cO 11 [1 + 3, 11 + 3, 0, 21 + 3, 28 + 3, 31 + 3, 0, 35 + 3, 45 + 3, 0, 0, 0]) A (Wf1_O (fun x hx => by simp only [List.mem_cons, List.not_mem_nil, or_false] at hx; omega))
    show Ex K G 46 ρ (shA32 sh) 203 [some (.ref (ρ 0)), some (.int (iZ ((38 : Nat) : Int)))] [] (up (up (s2) 28 1 0) 0 6 1)
    replace A : AL K G "FirstSeen" cX11_init 2 52 1250 (RtI G 1 ρ0 (PX11 sh σ)) 1 ρ0 46 ρ (shA32 sh) 8 259 := A
    refine x_iconst 204 A.1 dX11_init_203 rfl ?_
    refine x_istore_n1 205 A.1 dX11_init_204 rfl rfl ?_
    refine x_iload_n 206 A.1 dX11_init_205 rfl rfl rfl ?_
    refine x_iconst 207 A.1 dX11_init_206 rfl ?_
    refine x_icmp_ge 229 210 A.1 dX11_init_207 rfl rfl (by decide) (by decide) (fun h207 => absurd h207 (by decide)) (fun _ => ?_)
    refine x_aload_n 211 A.1 dX11_init_210 rfl rfl rfl ?_
    refine x_getr (j := 8) 214 A.1 rfl (by omega) rfl rfl (by decide) inT11 tb_2_181 rfl dX11_init_211 rfl ?_
    refine x_iload_n 215 A.1 dX11_init_214 rfl rfl rfl ?_
    refine x_new (ci := 6) (nF := 3) (fds := [2, 0, 0]) (a := 7) (b := 256) (lvf := fun ρ => [some (.ref (ρ 0)), some (.int (iZ 0))]) (stf := fun ρ => [.int (iZ 0), .ref (ρ 45)]) tyX6 218 A (by omega) rfl inT6 tyX6_ok tb_2_153 tb_2_155 tb_1_19 (by decide +kernel) rfl (by decide) (fun j => (HZ_mono (N' := 46) hz3 (by decide)) _ (by omega) (by omega) j) (fun ρ' h => ⟨by first | rfl | simp only [h 0 (by omega), h 45 (by omega)], by first | rfl | simp only [h 0 (by omega), h 45 (by omega)]⟩) dX11_init_215 rfl (fun K ρ hKl hρ A => ?_)
    show Ex K G 47 ρ (shA33 sh) 218 [some (.ref (ρ 0)), some (.int (iZ 0))] [.ref (ρ 46), .int (iZ 0), .ref (ρ 45)] (up (up (s2) 28 1 0) 0 6 1)
    replace A : AL K G "FirstSeen" cX11_init 2 52 1250 (RtI G 1 ρ0 (PX11 sh σ)) 1 ρ0 47 ρ (shA33 sh) 7 256 := A
    refine x_dup 219 A.1 dX11_init_218 rfl rfl ?_
    replace A := AL_le (a' := 6 + 1) (b' := 216 + 40) A (by decide) (by decide)
    refine x_callINA (host := "FirstSeen") (a := 6) (b := 216) (lvf := fun ρ => [some (.ref (ρ 0)), some (.int (iZ 0))]) (stf := fun ρ => [.ref (ρ 46), .int (iZ 0), .ref (ρ 45)]) 222 A dX11_init_219 rfl (c_X6_init (N := 47) (t := 46) A.2.2.2.2.2 (by decide) (by decide) rfl (HZ_mono hz3 (by decide))) (by decide +kernel) tb_2_157 tb_1_19 tb_2_158 rfl (by decide +kernel) (na := 0) rfl ⟨by decide, by decide⟩ rfl (Nat.le_of_ble_eq_true rfl) rfl (fun ρ' h => ⟨by first | rfl | simp only [h 0 (by omega), h 45 (by omega), h 46 (by omega)], by first | rfl | simp only [h 0 (by omega), h 45 (by omega), h 46 (by omega)]⟩) (fun K r ρ N' sh' σ1 hKl hq hρ hNN A hR1 => ?_)
    obtain ⟨rfl, rfl, rfl, rfl⟩ := hq
    show Ex K G 48 ρ (shA34 sh) 222 [some (.ref (ρ 0)), some (.int (iZ 0))] [.ref (ρ 46), .int (iZ 0), .ref (ρ 45)] (up (up (up (s2) 28 1 0) 0 6 1) 46 1 (-1))
    replace A : AL K G "FirstSeen" cX11_init 2 52 1250 (RtI G 1 ρ0 (PX11 sh σ)) 1 ρ0 48 ρ (shA34 sh) 6 216 := A
    have hzs1 : HZ 48 (up (up (up (s2) 28 1 0) 0 6 1) 46 1 (-1)) := HZ_up (HZ_mono hz3 (by decide)) (by decide) (by decide)
    refine x_aast2 (i := 0) 223 A.1 rfl (by omega) rfl (by omega) rfl rfl (by decide) (by decide) dX11_init_222 rfl ?_
    replace A := AL_sh (k := 45) (c := cR 2 4 (va_up (fun _ => none) (0 : Int).toNat (some 46))) A (Wf1_R (fun q l h => by unfold va_up at h; (repeat' split at h) <;> first | (cases h; done) | (simp only [Option.some.injEq] at h; omega)))
    show Ex K G 48 ρ (shA35 sh) 223 [some (.ref (ρ 0)), some (.int (iZ 0))] [] (up (up (up (s2) 28 1 0) 0 6 1) 46 1 (-1))
    replace A : AL K G "FirstSeen" cX11_init 2 52 1250 (RtI G 1 ρ0 (PX11 sh σ)) 1 ρ0 48 ρ (shA35 sh) 6 216 := A
    refine x_iinc_1 226 A.1 dX11_init_223 rfl rfl ?_
    refine x_goto 205 A.1 dX11_init_226 rfl ?_
    show Ex K G 48 ρ (shA35 sh) 205 [some (.ref (ρ 0)), some (.int (iZ (1 : Int)))] [] (up (up (up (s2) 28 1 0) 0 6 1) 46 1 (-1))
    replace A : AL K G "FirstSeen" cX11_init 2 52 1250 (RtI G 1 ρ0 (PX11 sh σ)) 1 ρ0 48 ρ (shA35 sh) 6 216 := A
    refine x_iload_n 206 A.1 dX11_init_205 rfl rfl rfl ?_
    refine x_iconst 207 A.1 dX11_init_206 rfl ?_
    refine x_icmp_ge 229 210 A.1 dX11_init_207 rfl rfl (by decide) (by decide) (fun h207 => absurd h207 (by decide)) (fun _ => ?_)
    refine x_aload_n 211 A.1 dX11_init_210 rfl rfl rfl ?_
    refine x_getr (j := 8) 214 A.1 rfl (by omega) rfl rfl (by decide) inT11 tb_2_181 rfl dX11_init_211 rfl ?_
    refine x_iload_n 215 A.1 dX11_init_214 rfl rfl rfl ?_
    refine x_new (ci := 6) (nF := 3) (fds := [2, 0, 0]) (a := 5) (b := 213) (lvf := fun ρ => [some (.ref (ρ 0)), some (.int (iZ (1 : Int)))]) (stf := fun ρ => [.int (iZ (1 : Int)), .ref (ρ 45)]) tyX6 218 A (by omega) rfl inT6 tyX6_ok tb_2_153 tb_2_155 tb_1_19 (by decide +kernel) rfl (by decide) (fun j => (HZ_mono (N' := 48) hzs1 (by decide)) _ (by omega) (by omega) j) (fun ρ' h => ⟨by first | rfl | simp only [h 0 (by omega), h 45 (by omega)], by first | rfl | simp only [h 0 (by omega), h 45 (by omega)]⟩) dX11_init_215 rfl (fun K ρ hKl hρ A => ?_)
    show Ex K G 49 ρ (shA36 sh) 218 [some (.ref (ρ 0)), some (.int (iZ (1 : Int)))] [.ref (ρ 48), .int (iZ (1 : Int)), .ref (ρ 45)] (up (up (up (s2) 28 1 0) 0 6 1) 46 1 (-1))
    replace A : AL K G "FirstSeen" cX11_init 2 52 1250 (RtI G 1 ρ0 (PX11 sh σ)) 1 ρ0 49 ρ (shA36 sh) 5 213 := A
    refine x_dup 219 A.1 dX11_init_218 rfl rfl ?_
    replace A := AL_le (a' := 4 + 1) (b' := 173 + 40) A (by decide) (by decide)
    refine x_callINA (host := "FirstSeen") (a := 4) (b := 173) (lvf := fun ρ => [some (.ref (ρ 0)), some (.int (iZ (1 : Int)))]) (stf := fun ρ => [.ref (ρ 48), .int (iZ (1 : Int)), .ref (ρ 45)]) 222 A dX11_init_219 rfl (c_X6_init (N := 49) (t := 48) A.2.2.2.2.2 (by decide) (by decide) rfl (HZ_mono hzs1 (by decide))) (by decide +kernel) tb_2_157 tb_1_19 tb_2_158 rfl (by decide +kernel) (na := 0) rfl ⟨by decide, by decide⟩ rfl (Nat.le_of_ble_eq_true rfl) rfl (fun ρ' h => ⟨by first | rfl | simp only [h 0 (by omega), h 45 (by omega), h 48 (by omega)], by first | rfl | simp only [h 0 (by omega), h 45 (by omega), h 48 (by omega)]⟩) (fun K r ρ N' sh' σ1 hKl hq hρ hNN A hR1 => ?_)
    obtain ⟨rfl, rfl, rfl, rfl⟩ := hq
    show Ex K G 50 ρ (shA37 sh) 222 [some (.ref (ρ 0)), some (.int (iZ (1 : Int)))] [.ref (ρ 48), .int (iZ (1 : Int)), .ref (ρ 45)] (up (up (up (up (s2) 28 1 0) 0 6 1) 46 1 (-1)) 48 1 (-1))
    replace A : AL K G "FirstSeen" cX11_init 2 52 1250 (RtI G 1 ρ0 (PX11 sh σ)) 1 ρ0 50 ρ (shA37 sh) 4 173 := A
    have hzs2 : HZ 50 (up (up (up (up (s2) 28 1 0) 0 6 1) 46 1 (-1)) 48 1 (-1)) := HZ_up (HZ_mono hzs1 (by decide)) (by decide) (by decide)
    refine x_aast2 (i := (1 : Int)) 223 A.1 rfl (by omega) rfl (by omega) rfl rfl (by decide) (by decide) dX11_init_222 rfl ?_
    replace A := AL_sh (k := 45) (c := cR 2 4 (va_up (va_up (fun _ => none) (0 : Int).toNat (some 46)) ((1 : Int) : Int).toNat (some 48))) A (Wf1_R (fun q l h => by unfold va_up at h; (repeat' split at h) <;> first | (cases h; done) | (simp only [Option.some.injEq] at h; omega)))
    show Ex K G 50 ρ (shA38 sh) 223 [some (.ref (ρ 0)), some (.int (iZ (1 : Int)))] [] (up (up (up (up (s2) 28 1 0) 0 6 1) 46 1 (-1)) 48 1 (-1))
    replace A : AL K G "FirstSeen" cX11_init 2 52 1250 (RtI G 1 ρ0 (PX11 sh σ)) 1 ρ0 50 ρ (shA38 sh) 4 173 := A
    refine x_iinc_1 226 A.1 dX11_init_223 rfl rfl ?_
    refine x_goto 205 A.1 dX11_init_226 rfl ?_
    show Ex K G 50 ρ (shA38 sh) 205 [some (.ref (ρ 0)), some (.int (iZ (2 : Int)))] [] (up (up (up (up (s2) 28 1 0) 0 6 1) 46 1 (-1)) 48 1 (-1))
    replace A : AL K G "FirstSeen" cX11_init 2 52 1250 (RtI G 1 ρ0 (PX11 sh σ)) 1 ρ0 50 ρ (shA38 sh) 4 173 := A
    refine x_iload_n 206 A.1 dX11_init_205 rfl rfl rfl ?_
    refine x_iconst 207 A.1 dX11_init_206 rfl ?_
    refine x_icmp_ge 229 210 A.1 dX11_init_207 rfl rfl (by decide) (by decide) (fun h207 => absurd h207 (by decide)) (fun _ => ?_)
    refine x_aload_n 211 A.1 dX11_init_210 rfl rfl rfl ?_
    refine x_getr (j := 8) 214 A.1 rfl (by omega) rfl rfl (by decide) inT11 tb_2_181 rfl dX11_init_211 rfl ?_
    refine x_iload_n 215 A.1 dX11_init_214 rfl rfl rfl ?_
    refine x_new (ci := 6) (nF := 3) (fds := [2, 0, 0]) (a := 3) (b := 170) (lvf := fun ρ => [some (.ref (ρ 0)), some (.int (iZ (2 : Int)))]) (stf := fun ρ => [.int (iZ (2 : Int)), .ref (ρ 45)]) tyX6 218 A (by omega) rfl inT6 tyX6_ok tb_2_153 tb_2_155 tb_1_19 (by decide +kernel) rfl (by decide) (fun j => (HZ_mono (N' := 50) hzs2 (by decide)) _ (by omega) (by omega) j) (fun ρ' h => ⟨by first | rfl | simp only [h 0 (by omega), h 45 (by omega)], by first | rfl | simp only [h 0 (by omega), h 45 (by omega)]⟩) dX11_init_215 rfl (fun K ρ hKl hρ A => ?_)
    show Ex K G 51 ρ (shA39 sh) 218 [some (.ref (ρ 0)), some (.int (iZ (2 : Int)))] [.ref (ρ 50), .int (iZ (2 : Int)), .ref (ρ 45)] (up (up (up (up (s2) 28 1 0) 0 6 1) 46 1 (-1)) 48 1 (-1))
    replace A : AL K G "FirstSeen" cX11_init 2 52 1250 (RtI G 1 ρ0 (PX11 sh σ)) 1 ρ0 51 ρ (shA39 sh) 3 170 := A
    refine x_dup 219 A.1 dX11_init_218 rfl rfl ?_
    replace A := AL_le (a' := 2 + 1) (b' := 130 + 40) A (by decide) (by decide)
    refine x_callINA (host := "FirstSeen") (a := 2) (b := 130) (lvf := fun ρ => [some (.ref (ρ 0)), some (.int (iZ (2 : Int)))]) (stf := fun ρ => [.ref (ρ 50), .int (iZ (2 : Int)), .ref (ρ 45)]) 222 A dX11_init_219 rfl (c_X6_init (N := 51) (t := 50) A.2.2.2.2.2 (by decide) (by decide) rfl (HZ_mono hzs2 (by decide))) (by decide +kernel) tb_2_157 tb_1_19 tb_2_158 rfl (by decide +kernel) (na := 0) rfl ⟨by decide, by decide⟩ rfl (Nat.le_of_ble_eq_true rfl) rfl (fun ρ' h => ⟨by first | rfl | simp only [h 0 (by omega), h 45 (by omega), h 50 (by omega)], by first | rfl | simp only [h 0 (by omega), h 45 (by omega), h 50 (by omega)]⟩) (fun K r ρ N' sh' σ1 hKl hq hρ hNN A hR1 => ?_)
    obtain ⟨rfl, rfl, rfl, rfl⟩ := hq
    show Ex K G 52 ρ (shA40 sh) 222 [some (.ref (ρ 0)), some (.int (iZ (2 : Int)))] [.ref (ρ 50), .int (iZ (2 : Int)), .ref (ρ 45)] (up (up (up (up (up (s2) 28 1 0) 0 6 1) 46 1 (-1)) 48 1 (-1)) 50 1 (-1))
    replace A : AL K G "FirstSeen" cX11_init 2 52 1250 (RtI G 1 ρ0 (PX11 sh σ)) 1 ρ0 52 ρ (shA40 sh) 2 130 := A
    have hzs3 : HZ 52 (up (up (up (up (up (s2) 28 1 0) 0 6 1) 46 1 (-1)) 48 1 (-1)) 50 1 (-1)) := HZ_up (HZ_mono hzs2 (by decide)) (by decide) (by decide)
    refine x_aast2 (i := (2 : Int)) 223 A.1 rfl (by omega) rfl (by omega) rfl rfl (by decide) (by decide) dX11_init_222 rfl ?_
    replace A := AL_sh (k := 45) (c := cR 2 4 (va_up (va_up (va_up (fun _ => none) (0 : Int).toNat (some 46)) ((1 : Int) : Int).toNat (some 48)) ((2 : Int) : Int).toNat (some 50))) A (Wf1_R (fun q l h => by unfold va_up at h; (repeat' split at h) <;> first | (cases h; done) | (simp only [Option.some.injEq] at h; omega)))
    show Ex K G 52 ρ (shA41 sh) 223 [some (.ref (ρ 0)), some (.int (iZ (2 : Int)))] [] (up (up (up (up (up (s2) 28 1 0) 0 6 1) 46 1 (-1)) 48 1 (-1)) 50 1 (-1))
    replace A : AL K G "FirstSeen" cX11_init 2 52 1250 (RtI G 1 ρ0 (PX11 sh σ)) 1 ρ0 52 ρ (shA41 sh) 2 130 := A
    refine x_iinc_1 226 A.1 dX11_init_223 rfl rfl ?_
    refine x_goto 205 A.1 dX11_init_226 rfl ?_
    show Ex K G 52 ρ (shA41 sh) 205 [some (.ref (ρ 0)), some (.int (iZ (3 : Int)))] [] (up (up (up (up (up (s2) 28 1 0) 0 6 1) 46 1 (-1)) 48 1 (-1)) 50 1 (-1))
    replace A : AL K G "FirstSeen" cX11_init 2 52 1250 (RtI G 1 ρ0 (PX11 sh σ)) 1 ρ0 52 ρ (shA41 sh) 2 130 := A
    refine x_iload_n 206 A.1 dX11_init_205 rfl rfl rfl ?_
    refine x_iconst 207 A.1 dX11_init_206 rfl ?_
    refine x_icmp_ge 229 210 A.1 dX11_init_207 rfl rfl (by decide) (by decide) (fun h207 => absurd h207 (by decide)) (fun _ => ?_)
    refine x_aload_n 211 A.1 dX11_init_210 rfl rfl rfl ?_
    refine x_getr (j := 8) 214 A.1 rfl (by omega) rfl rfl (by decide) inT11 tb_2_181 rfl dX11_init_211 rfl ?_
    refine x_iload_n 215 A.1 dX11_init_214 rfl rfl rfl ?_
    refine x_new (ci := 6) (nF := 3) (fds := [2, 0, 0]) (a := 1) (b := 127) (lvf := fun ρ => [some (.ref (ρ 0)), some (.int (iZ (3 : Int)))]) (stf := fun ρ => [.int (iZ (3 : Int)), .ref (ρ 45)]) tyX6 218 A (by omega) rfl inT6 tyX6_ok tb_2_153 tb_2_155 tb_1_19 (by decide +kernel) rfl (by decide) (fun j => (HZ_mono (N' := 52) hzs3 (by decide)) _ (by omega) (by omega) j) (fun ρ' h => ⟨by first | rfl | simp only [h 0 (by omega), h 45 (by omega)], by first | rfl | simp only [h 0 (by omega), h 45 (by omega)]⟩) dX11_init_215 rfl (fun K ρ hKl hρ A => ?_)
    show Ex K G 53 ρ (shA42 sh) 218 [some (.ref (ρ 0)), some (.int (iZ (3 : Int)))] [.ref (ρ 52), .int (iZ (3 : Int)), .ref (ρ 45)] (up (up (up (up (up (s2) 28 1 0) 0 6 1) 46 1 (-1)) 48 1 (-1)) 50 1 (-1))
    replace A : AL K G "FirstSeen" cX11_init 2 52 1250 (RtI G 1 ρ0 (PX11 sh σ)) 1 ρ0 53 ρ (shA42 sh) 1 127 := A
    refine x_dup 219 A.1 dX11_init_218 rfl rfl ?_
    replace A := AL_le (a' := 0 + 1) (b' := 87 + 40) A (by decide) (by decide)
    refine x_callINA (host := "FirstSeen") (a := 0) (b := 87) (lvf := fun ρ => [some (.ref (ρ 0)), some (.int (iZ (3 : Int)))]) (stf := fun ρ => [.ref (ρ 52), .int (iZ (3 : Int)), .ref (ρ 45)]) 222 A dX11_init_219 rfl (c_X6_init (N := 53) (t := 52) A.2.2.2.2.2 (by decide) (by decide) rfl (HZ_mono hzs3 (by decide))) (by decide +kernel) tb_2_157 tb_1_19 tb_2_158 rfl (by decide +kernel) (na := 0) rfl ⟨by decide, by decide⟩ rfl (Nat.le_of_ble_eq_true rfl) rfl (fun ρ' h => ⟨by first | rfl | simp only [h 0 (by omega), h 45 (by omega), h 52 (by omega)], by first | rfl | simp only [h 0 (by omega), h 45 (by omega), h 52 (by omega)]⟩) (fun K r ρ N' sh' σ1 hKl hq hρ hNN A hR1 => ?_)
    obtain ⟨rfl, rfl, rfl, rfl⟩ := hq
    show Ex K G 54 ρ (shA43 sh) 222 [some (.ref (ρ 0)), some (.int (iZ (3 : Int)))] [.ref (ρ 52), .int (iZ (3 : Int)), .ref (ρ 45)] (up (up (up (up (up (up (s2) 28 1 0) 0 6 1) 46 1 (-1)) 48 1 (-1)) 50 1 (-1)) 52 1 (-1))
    replace A : AL K G "FirstSeen" cX11_init 2 52 1250 (RtI G 1 ρ0 (PX11 sh σ)) 1 ρ0 54 ρ (shA43 sh) 0 87 := A
    have hzs4 : HZ 54 (up (up (up (up (up (up (s2) 28 1 0) 0 6 1) 46 1 (-1)) 48 1 (-1)) 50 1 (-1)) 52 1 (-1)) := HZ_up (HZ_mono hzs3 (by decide)) (by decide) (by decide)
    refine x_aast2 (i := (3 : Int)) 223 A.1 rfl (by omega) rfl (by omega) rfl rfl (by decide) (by decide) dX11_init_222 rfl ?_
    replace A := AL_sh (k := 45) (c := cR 2 4 (va_up (va_up (va_up (va_up (fun _ => none) (0 : Int).toNat (some 46)) ((1 : Int) : Int).toNat (some 48)) ((2 : Int) : Int).toNat (some 50)) ((3 : Int) : Int).toNat (some 52))) A (Wf1_R (fun q l h => by unfold va_up at h; (repeat' split at h) <;> first | (cases h; done) | (simp only [Option.some.injEq] at h; omega)))
    show Ex K G 54 ρ (shA44 sh) 223 [some (.ref (ρ 0)), some (.int (iZ (3 : Int)))] [] (up (up (up (up (up (up (s2) 28 1 0) 0 6 1) 46 1 (-1)) 48 1 (-1)) 50 1 (-1)) 52 1 (-1))
    replace A : AL K G "FirstSeen" cX11_init 2 52 1250 (RtI G 1 ρ0 (PX11 sh σ)) 1 ρ0 54 ρ (shA44 sh) 0 87 := A
    refine x_iinc_1 226 A.1 dX11_init_223 rfl rfl ?_
    refine x_goto 205 A.1 dX11_init_226 rfl ?_
    show Ex K G 54 ρ (shA44 sh) 205 [some (.ref (ρ 0)), some (.int (iZ (4 : Int)))] [] (up (up (up (up (up (up (s2) 28 1 0) 0 6 1) 46 1 (-1)) 48 1 (-1)) 50 1 (-1)) 52 1 (-1))
    replace A : AL K G "FirstSeen" cX11_init 2 52 1250 (RtI G 1 ρ0 (PX11 sh σ)) 1 ρ0 54 ρ (shA44 sh) 0 87 := A
    refine x_iload_n 206 A.1 dX11_init_205 rfl rfl rfl ?_
    refine x_iconst 207 A.1 dX11_init_206 rfl ?_
    refine x_icmp_ge 229 210 A.1 dX11_init_207 rfl rfl (by decide) (by decide) (fun _ => ?_) (fun h207 => absurd (show (4 : Int) ≤ 4 from Int.le_refl _) h207)
    refine x_vretA A dX11_init_229 ⟨rfl, rfl, rfl, fun a b h1 h2 h3 h4 h5 h6 h7 => ?_, ?_, ?_, ?_, ?_, fun i x hi => ?_, ?_⟩
    · simp only [up_at2]
      rw [if_neg (by omega), if_neg (by omega), if_neg (by omega), if_neg (by omega), if_neg (by omega), if_neg (by omega)]
      rw [j1 a h1 h3 h4 h5]
      exact hi1 a b (by omega) (by omega)
    · rfl
    · rfl
    · exact j3
    · exact j4
    · exact j5 i x hi
    · exact ⟨rfl, rfl, rfl, rfl⟩
  have L108 : ∀ (mz i : Nat) (s1 : Sig), mz = 38 - i → (i ≤ 38 ∧ ((∀ a b, ¬ (a = 29 ∧ b < i) → ¬ (a = 28 ∧ b = 1) → s1 a b = σ a b) ∧ s1 28 1 = ((i : Nat) : Int) ∧ ∀ b, b < i → s1 29 b = chS 0 b)) → Ex K G 31 ρ (shA23 sh) 108 [some (.ref (ρ 0)), some (.int (iZ (i : Int)))] [] s1 := by
    intro mz
    induction mz using Nat.strongRecOn with
    | ind mz ih =>
      intro i s1 hmz hinv
      obtain ⟨hi, hi1, hi2, hi3⟩ := hinv
      refine x_iload_n 109 A.1 dX11_init_108 rfl rfl rfl ?_
      refine x_ldcT 111 A.1 rfl dX11_init_109 rfl ?_
      refine x_callVse 114 A.1 dX11_init_111 rfl (c_J0_length_8abf5 (j := 0) (by decide)) (by decide) tb_1_179 tb_1_180 tb_1_181 tb_1_10 tb_1_182 (na := 0) (by decide +kernel) rfl ⟨by decide, by decide⟩ rfl (Nat.le_of_ble_eq_true rfl) rfl (fun r111 => ?_)
      have h38 : ((stL.getD 0 0 : Nat) : Int) = 38 := rfl
      rw [h38]
      refine x_icmp_ge 137 117 A.1 dX11_init_114 rfl rfl (by omega) (by omega) (fun h114 => ?_) (fun h114 => ?_)
      · have h : i = 38 := by omega
        subst h
        exact hk s1 ⟨hi1, hi2, hi3⟩
      refine x_aload_n 118 A.1 dX11_init_117 rfl rfl rfl ?_
      refine x_getr (j := 4) 121 A.1 rfl (by decide) rfl rfl (by decide) inT11 tb_2_177 rfl dX11_init_118 rfl ?_
      refine x_ldcT 123 A.1 rfl dX11_init_121 rfl ?_
      refine x_iload_n 124 A.1 dX11_init_123 rfl rfl rfl ?_
      refine x_callVse 127 A.1 dX11_init_124 rfl (c_J0_charAt_5068e (j := 0) (by decide) (i := (i : Int)) ⟨by omega, by show (i : Int) < ((38 : Nat) : Int); omega⟩) (by decide) tb_1_189 tb_1_190 tb_1_191 tb_1_10 tb_1_192 (na := 1) (by decide +kernel) rfl ⟨by decide, by decide⟩ rfl (Nat.le_of_ble_eq_true rfl) rfl (fun r124 => ?_)
      rw [Int.toNat_natCast] at *
      refine x_callVi (lb := 28) 130 A.1 dX11_init_127 rfl (c_X5_putR (v := chS 0 i) (by omega) (by omega) hW31) rfl (by decide) rfl tb_1_227 tb_1_228 tb_1_229 tb_1_9 tb_1_230 (na := 1) (by decide +kernel) rfl ⟨by decide, by decide⟩ rfl (Nat.le_of_ble_eq_true rfl) rfl (fun z127 s127 hz127 hq127 hR127 => ?_)
      obtain ⟨rfl, rfl⟩ := hq127.1 (by omega)
      refine x_pop 131 A.1 dX11_init_130 rfl rfl ?_
      refine x_iinc_1 134 A.1 dX11_init_131 rfl rfl ?_
      refine x_goto 108 A.1 dX11_init_134 rfl ?_
      refine ih _ (by omega) (i + 1) _ rfl ⟨by omega, fun a b h1 h2 => ?_, ?_, fun b hb => ?_⟩
      · rw [hi2, Int.toNat_natCast]
        by_cases h28 : a = 28
        · subst h28
          rw [up_i (by omega), up_r (by omega)]; exact hi1 28 b (by omega) h2
        · rw [up_r h28]
          by_cases h29 : a = 29
          · subst h29
            rw [up_i (by omega)]; exact hi1 29 b (by omega) (by omega)
          · rw [up_r h29]; exact hi1 a b (by omega) (by omega)
      · rw [up_s, hi2]; rfl
      · rw [hi2, Int.toNat_natCast, up_r (by omega)]
        by_cases hbi : b = i
        · subst hbi; rw [up_s]
        · rw [up_i hbi]; exact hi3 b (by omega)
  exact L108 _ 0 σ rfl ⟨by omega, fun a b _ _ => rfl, by rw [(hz 28 (by decide) (by decide) 1).1]; rfl, fun b hb => absurd hb (by omega)⟩
