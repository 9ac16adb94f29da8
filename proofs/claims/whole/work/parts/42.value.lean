set_option maxHeartbeats 4000000 in
set_option maxRecDepth 100000 in
theorem c_X7_joined {l : Launch} {G : Gt} {ρ : Nat → Nat} {tc : Nat} {cl : Nat → Nat} {σ : Sig} {c x y : Int} (hc : -2147483648 ≤ c ∧ c ≤ 2147483647) (hx : -2147483648 ≤ x ∧ x ≤ 2147483647) (hy : -2147483648 ≤ y ∧ y ≤ 2147483647) : MX l yX7_joined cX7_joined 3 (some .int) 0 0 G (NN tc) ρ (shp tc cl) [.int (iZ c), .int (iZ x), .int (iZ y)] σ (PE σ (binF c x y)) := by
  refine MX_of [some (.int (iZ c)), some (.int (iZ x)), some (.int (iZ y))] (by decide +kernel) rfl rfl (Nat.le_of_ble_eq_true rfl) ?_
  intro K hKl C T hRng
  subst hKl
  refine x_iload_n 1 C dX7_joined_0 rfl rfl rfl ?_
  refine x_tab 102 [98, 94, 83, 72, 102, 58, 44] C dX7_joined_1 rfl (by decide) (by decide) (by omega) (fun h1 => ?_) (fun j hj h1 => ?_)
  · refine x_iload_n 103 C dX7_joined_102 rfl rfl rfl ?_
    refine x_iload_n 104 C dX7_joined_103 rfl rfl rfl ?_
    refine x_imul 105 C dX7_joined_104 rfl ?_
    refine x_wrap 105 C rfl ?_
    refine x_iret C T dX7_joined_105 ?_
    refine PE_i ?_ (by first | omega | exact wrap_in _)
    unfold binF
    first
      | (rw [if_pos (by omega)]; first | (rw [if_pos (by omega)]; done) | (rw [if_neg (by omega)]; done))
      | (rw [if_neg (by omega), if_pos (by omega)]; first | (rw [if_pos (by omega)]; done) | (rw [if_neg (by omega)]; done))
      | (rw [if_neg (by omega), if_neg (by omega), if_pos (by omega)]; first | (rw [if_pos (by omega)]; done) | (rw [if_neg (by omega)]; done))
      | (rw [if_neg (by omega), if_neg (by omega), if_neg (by omega), if_pos (by omega)]; first | (rw [if_pos (by omega)]; done) | (rw [if_neg (by omega)]; done))
      | (rw [if_neg (by omega), if_neg (by omega), if_neg (by omega), if_neg (by omega), if_pos (by omega)]; done)
      | (rw [if_neg (by omega), if_neg (by omega), if_neg (by omega), if_neg (by omega), if_neg (by omega), if_pos (by omega)]; done)
      | (rw [if_neg (by omega), if_neg (by omega), if_neg (by omega), if_neg (by omega), if_neg (by omega), if_neg (by omega)]; done)
  match j, hj with
  | 0, hj =>
    refine x_iload_n 99 C dX7_joined_98 rfl rfl rfl ?_
    refine x_iload_n 100 C dX7_joined_99 rfl rfl rfl ?_
    refine x_isub 101 C dX7_joined_100 rfl ?_
    refine x_wrap 101 C rfl ?_
    refine x_iret C T dX7_joined_101 ?_
    refine PE_i ?_ (by first | omega | exact wrap_in _)
    unfold binF
    first
      | (rw [if_pos (by omega)]; first | (rw [if_pos (by omega)]; done) | (rw [if_neg (by omega)]; done))
      | (rw [if_neg (by omega), if_pos (by omega)]; first | (rw [if_pos (by omega)]; done) | (rw [if_neg (by omega)]; done))
      | (rw [if_neg (by omega), if_neg (by omega), if_pos (by omega)]; first | (rw [if_pos (by omega)]; done) | (rw [if_neg (by omega)]; done))
      | (rw [if_neg (by omega), if_neg (by omega), if_neg (by omega), if_pos (by omega)]; first | (rw [if_pos (by omega)]; done) | (rw [if_neg (by omega)]; done))
      | (rw [if_neg (by omega), if_neg (by omega), if_neg (by omega), if_neg (by omega), if_pos (by omega)]; done)
      | (rw [if_neg (by omega), if_neg (by omega), if_neg (by omega), if_neg (by omega), if_neg (by omega), if_pos (by omega)]; done)
      | (rw [if_neg (by omega), if_neg (by omega), if_neg (by omega), if_neg (by omega), if_neg (by omega), if_neg (by omega)]; done)
  | 1, hj =>
    refine x_iload_n 95 C dX7_joined_94 rfl rfl rfl ?_
    refine x_iload_n 96 C dX7_joined_95 rfl rfl rfl ?_
    refine x_iadd 97 C dX7_joined_96 rfl ?_
    refine x_wrap 97 C rfl ?_
    refine x_iret C T dX7_joined_97 ?_
    refine PE_i ?_ (by first | omega | exact wrap_in _)
    unfold binF
    first
      | (rw [if_pos (by omega)]; first | (rw [if_pos (by omega)]; done) | (rw [if_neg (by omega)]; done))
      | (rw [if_neg (by omega), if_pos (by omega)]; first | (rw [if_pos (by omega)]; done) | (rw [if_neg (by omega)]; done))
      | (rw [if_neg (by omega), if_neg (by omega), if_pos (by omega)]; first | (rw [if_pos (by omega)]; done) | (rw [if_neg (by omega)]; done))
      | (rw [if_neg (by omega), if_neg (by omega), if_neg (by omega), if_pos (by omega)]; first | (rw [if_pos (by omega)]; done) | (rw [if_neg (by omega)]; done))
      | (rw [if_neg (by omega), if_neg (by omega), if_neg (by omega), if_neg (by omega), if_pos (by omega)]; done)
      | (rw [if_neg (by omega), if_neg (by omega), if_neg (by omega), if_neg (by omega), if_neg (by omega), if_pos (by omega)]; done)
      | (rw [if_neg (by omega), if_neg (by omega), if_neg (by omega), if_neg (by omega), if_neg (by omega), if_neg (by omega)]; done)
  | 2, hj =>
    refine x_iload_n 84 C dX7_joined_83 rfl rfl rfl ?_
    refine x_iload_n 85 C dX7_joined_84 rfl rfl rfl ?_
    refine x_icmp_ne 92 88 C dX7_joined_85 rfl rfl (by omega) (by omega) (fun h85 => ?_) (fun h85 => ?_)
    · refine x_iconst 93 C dX7_joined_92 rfl ?_
      refine x_iret C T dX7_joined_93 ?_
      refine PE_i ?_ (by first | omega | exact wrap_in _)
      unfold binF
      first
        | (rw [if_pos (by omega)]; first | (rw [if_pos (by omega)]; done) | (rw [if_neg (by omega)]; done))
        | (rw [if_neg (by omega), if_pos (by omega)]; first | (rw [if_pos (by omega)]; done) | (rw [if_neg (by omega)]; done))
        | (rw [if_neg (by omega), if_neg (by omega), if_pos (by omega)]; first | (rw [if_pos (by omega)]; done) | (rw [if_neg (by omega)]; done))
        | (rw [if_neg (by omega), if_neg (by omega), if_neg (by omega), if_pos (by omega)]; first | (rw [if_pos (by omega)]; done) | (rw [if_neg (by omega)]; done))
        | (rw [if_neg (by omega), if_neg (by omega), if_neg (by omega), if_neg (by omega), if_pos (by omega)]; done)
        | (rw [if_neg (by omega), if_neg (by omega), if_neg (by omega), if_neg (by omega), if_neg (by omega), if_pos (by omega)]; done)
        | (rw [if_neg (by omega), if_neg (by omega), if_neg (by omega), if_neg (by omega), if_neg (by omega), if_neg (by omega)]; done)
    refine x_iconst 89 C dX7_joined_88 rfl ?_
    refine x_goto 93 C dX7_joined_89 rfl ?_
    refine x_iret C T dX7_joined_93 ?_
    refine PE_i ?_ (by first | omega | exact wrap_in _)
    unfold binF
    first
      | (rw [if_pos (by omega)]; first | (rw [if_pos (by omega)]; done) | (rw [if_neg (by omega)]; done))
      | (rw [if_neg (by omega), if_pos (by omega)]; first | (rw [if_pos (by omega)]; done) | (rw [if_neg (by omega)]; done))
      | (rw [if_neg (by omega), if_neg (by omega), if_pos (by omega)]; first | (rw [if_pos (by omega)]; done) | (rw [if_neg (by omega)]; done))
      | (rw [if_neg (by omega), if_neg (by omega), if_neg (by omega), if_pos (by omega)]; first | (rw [if_pos (by omega)]; done) | (rw [if_neg (by omega)]; done))
      | (rw [if_neg (by omega), if_neg (by omega), if_neg (by omega), if_neg (by omega), if_pos (by omega)]; done)
      | (rw [if_neg (by omega), if_neg (by omega), if_neg (by omega), if_neg (by omega), if_neg (by omega), if_pos (by omega)]; done)
      | (rw [if_neg (by omega), if_neg (by omega), if_neg (by omega), if_neg (by omega), if_neg (by omega), if_neg (by omega)]; done)
  | 3, hj =>
    refine x_iload_n 73 C dX7_joined_72 rfl rfl rfl ?_
    refine x_iload_n 74 C dX7_joined_73 rfl rfl rfl ?_
    refine x_icmp_ge 81 77 C dX7_joined_74 rfl rfl (by omega) (by omega) (fun h74 => ?_) (fun h74 => ?_)
    · refine x_iconst 82 C dX7_joined_81 rfl ?_
      refine x_iret C T dX7_joined_82 ?_
      refine PE_i ?_ (by first | omega | exact wrap_in _)
      unfold binF
      first
        | (rw [if_pos (by omega)]; first | (rw [if_pos (by omega)]; done) | (rw [if_neg (by omega)]; done))
        | (rw [if_neg (by omega), if_pos (by omega)]; first | (rw [if_pos (by omega)]; done) | (rw [if_neg (by omega)]; done))
        | (rw [if_neg (by omega), if_neg (by omega), if_pos (by omega)]; first | (rw [if_pos (by omega)]; done) | (rw [if_neg (by omega)]; done))
        | (rw [if_neg (by omega), if_neg (by omega), if_neg (by omega), if_pos (by omega)]; first | (rw [if_pos (by omega)]; done) | (rw [if_neg (by omega)]; done))
        | (rw [if_neg (by omega), if_neg (by omega), if_neg (by omega), if_neg (by omega), if_pos (by omega)]; done)
        | (rw [if_neg (by omega), if_neg (by omega), if_neg (by omega), if_neg (by omega), if_neg (by omega), if_pos (by omega)]; done)
        | (rw [if_neg (by omega), if_neg (by omega), if_neg (by omega), if_neg (by omega), if_neg (by omega), if_neg (by omega)]; done)
    refine x_iconst 78 C dX7_joined_77 rfl ?_
    refine x_goto 82 C dX7_joined_78 rfl ?_
    refine x_iret C T dX7_joined_82 ?_
    refine PE_i ?_ (by first | omega | exact wrap_in _)
    unfold binF
    first
      | (rw [if_pos (by omega)]; first | (rw [if_pos (by omega)]; done) | (rw [if_neg (by omega)]; done))
      | (rw [if_neg (by omega), if_pos (by omega)]; first | (rw [if_pos (by omega)]; done) | (rw [if_neg (by omega)]; done))
      | (rw [if_neg (by omega), if_neg (by omega), if_pos (by omega)]; first | (rw [if_pos (by omega)]; done) | (rw [if_neg (by omega)]; done))
      | (rw [if_neg (by omega), if_neg (by omega), if_neg (by omega), if_pos (by omega)]; first | (rw [if_pos (by omega)]; done) | (rw [if_neg (by omega)]; done))
      | (rw [if_neg (by omega), if_neg (by omega), if_neg (by omega), if_neg (by omega), if_pos (by omega)]; done)
      | (rw [if_neg (by omega), if_neg (by omega), if_neg (by omega), if_neg (by omega), if_neg (by omega), if_pos (by omega)]; done)
      | (rw [if_neg (by omega), if_neg (by omega), if_neg (by omega), if_neg (by omega), if_neg (by omega), if_neg (by omega)]; done)
  | 4, hj =>
    refine x_iload_n 103 C dX7_joined_102 rfl rfl rfl ?_
    refine x_iload_n 104 C dX7_joined_103 rfl rfl rfl ?_
    refine x_imul 105 C dX7_joined_104 rfl ?_
    refine x_wrap 105 C rfl ?_
    refine x_iret C T dX7_joined_105 ?_
    refine PE_i ?_ (by first | omega | exact wrap_in _)
    unfold binF
    first
      | (rw [if_pos (by omega)]; first | (rw [if_pos (by omega)]; done) | (rw [if_neg (by omega)]; done))
      | (rw [if_neg (by omega), if_pos (by omega)]; first | (rw [if_pos (by omega)]; done) | (rw [if_neg (by omega)]; done))
      | (rw [if_neg (by omega), if_neg (by omega), if_pos (by omega)]; first | (rw [if_pos (by omega)]; done) | (rw [if_neg (by omega)]; done))
      | (rw [if_neg (by omega), if_neg (by omega), if_neg (by omega), if_pos (by omega)]; first | (rw [if_pos (by omega)]; done) | (rw [if_neg (by omega)]; done))
      | (rw [if_neg (by omega), if_neg (by omega), if_neg (by omega), if_neg (by omega), if_pos (by omega)]; done)
      | (rw [if_neg (by omega), if_neg (by omega), if_neg (by omega), if_neg (by omega), if_neg (by omega), if_pos (by omega)]; done)
      | (rw [if_neg (by omega), if_neg (by omega), if_neg (by omega), if_neg (by omega), if_neg (by omega), if_neg (by omega)]; done)
  | 5, hj =>
    refine x_iload_n 59 C dX7_joined_58 rfl rfl rfl ?_
    first
      | refine x_ifb_eq 70 62 C dX7_joined_59 rfl rfl (fun h59 => ?_) (fun h59 => ?_)
      | refine x_if_eq 70 62 C dX7_joined_59 rfl rfl (by omega) (fun h59 => ?_) (fun h59 => ?_)
    · refine x_iconst 71 C dX7_joined_70 rfl ?_
      refine x_iret C T dX7_joined_71 ?_
      refine PE_i ?_ (by first | omega | exact wrap_in _)
      unfold binF
      first
        | (rw [if_pos (by omega)]; first | (rw [if_pos (by omega)]; done) | (rw [if_neg (by omega)]; done))
        | (rw [if_neg (by omega), if_pos (by omega)]; first | (rw [if_pos (by omega)]; done) | (rw [if_neg (by omega)]; done))
        | (rw [if_neg (by omega), if_neg (by omega), if_pos (by omega)]; first | (rw [if_pos (by omega)]; done) | (rw [if_neg (by omega)]; done))
        | (rw [if_neg (by omega), if_neg (by omega), if_neg (by omega), if_pos (by omega)]; first | (rw [if_pos (by omega)]; done) | (rw [if_neg (by omega)]; done))
        | (rw [if_neg (by omega), if_neg (by omega), if_neg (by omega), if_neg (by omega), if_pos (by omega)]; done)
        | (rw [if_neg (by omega), if_neg (by omega), if_neg (by omega), if_neg (by omega), if_neg (by omega), if_pos (by omega)]; done)
        | (rw [if_neg (by omega), if_neg (by omega), if_neg (by omega), if_neg (by omega), if_neg (by omega), if_neg (by omega)]; done)
    refine x_iload_n 63 C dX7_joined_62 rfl rfl rfl ?_
    first
      | refine x_ifb_eq 70 66 C dX7_joined_63 rfl rfl (fun h63 => ?_) (fun h63 => ?_)
      | refine x_if_eq 70 66 C dX7_joined_63 rfl rfl (by omega) (fun h63 => ?_) (fun h63 => ?_)
    · refine x_iconst 71 C dX7_joined_70 rfl ?_
      refine x_iret C T dX7_joined_71 ?_
      refine PE_i ?_ (by first | omega | exact wrap_in _)
      unfold binF
      first
        | (rw [if_pos (by omega)]; first | (rw [if_pos (by omega)]; done) | (rw [if_neg (by omega)]; done))
        | (rw [if_neg (by omega), if_pos (by omega)]; first | (rw [if_pos (by omega)]; done) | (rw [if_neg (by omega)]; done))
        | (rw [if_neg (by omega), if_neg (by omega), if_pos (by omega)]; first | (rw [if_pos (by omega)]; done) | (rw [if_neg (by omega)]; done))
        | (rw [if_neg (by omega), if_neg (by omega), if_neg (by omega), if_pos (by omega)]; first | (rw [if_pos (by omega)]; done) | (rw [if_neg (by omega)]; done))
        | (rw [if_neg (by omega), if_neg (by omega), if_neg (by omega), if_neg (by omega), if_pos (by omega)]; done)
        | (rw [if_neg (by omega), if_neg (by omega), if_neg (by omega), if_neg (by omega), if_neg (by omega), if_pos (by omega)]; done)
        | (rw [if_neg (by omega), if_neg (by omega), if_neg (by omega), if_neg (by omega), if_neg (by omega), if_neg (by omega)]; done)
    refine x_iconst 67 C dX7_joined_66 rfl ?_
    refine x_goto 71 C dX7_joined_67 rfl ?_
    refine x_iret C T dX7_joined_71 ?_
    refine PE_i ?_ (by first | omega | exact wrap_in _)
    unfold binF
    first
      | (rw [if_pos (by omega)]; first | (rw [if_pos (by omega)]; done) | (rw [if_neg (by omega)]; done))
      | (rw [if_neg (by omega), if_pos (by omega)]; first | (rw [if_pos (by omega)]; done) | (rw [if_neg (by omega)]; done))
      | (rw [if_neg (by omega), if_neg (by omega), if_pos (by omega)]; first | (rw [if_pos (by omega)]; done) | (rw [if_neg (by omega)]; done))
      | (rw [if_neg (by omega), if_neg (by omega), if_neg (by omega), if_pos (by omega)]; first | (rw [if_pos (by omega)]; done) | (rw [if_neg (by omega)]; done))
      | (rw [if_neg (by omega), if_neg (by omega), if_neg (by omega), if_neg (by omega), if_pos (by omega)]; done)
      | (rw [if_neg (by omega), if_neg (by omega), if_neg (by omega), if_neg (by omega), if_neg (by omega), if_pos (by omega)]; done)
      | (rw [if_neg (by omega), if_neg (by omega), if_neg (by omega), if_neg (by omega), if_neg (by omega), if_neg (by omega)]; done)
  | 6, hj =>
    refine x_iload_n 45 C dX7_joined_44 rfl rfl rfl ?_
    first
      | refine x_ifb_ne 52 48 C dX7_joined_45 rfl rfl (fun h45 => ?_) (fun h45 => ?_)
      | refine x_if_ne 52 48 C dX7_joined_45 rfl rfl (by omega) (fun h45 => ?_) (fun h45 => ?_)
    · refine x_iconst 53 C dX7_joined_52 rfl ?_
      refine x_goto 57 C dX7_joined_53 rfl ?_
      refine x_iret C T dX7_joined_57 ?_
      refine PE_i ?_ (by first | omega | exact wrap_in _)
      unfold binF
      first
        | (rw [if_pos (by omega)]; first | (rw [if_pos (by omega)]; done) | (rw [if_neg (by omega)]; done))
        | (rw [if_neg (by omega), if_pos (by omega)]; first | (rw [if_pos (by omega)]; done) | (rw [if_neg (by omega)]; done))
        | (rw [if_neg (by omega), if_neg (by omega), if_pos (by omega)]; first | (rw [if_pos (by omega)]; done) | (rw [if_neg (by omega)]; done))
        | (rw [if_neg (by omega), if_neg (by omega), if_neg (by omega), if_pos (by omega)]; first | (rw [if_pos (by omega)]; done) | (rw [if_neg (by omega)]; done))
        | (rw [if_neg (by omega), if_neg (by omega), if_neg (by omega), if_neg (by omega), if_pos (by omega)]; done)
        | (rw [if_neg (by omega), if_neg (by omega), if_neg (by omega), if_neg (by omega), if_neg (by omega), if_pos (by omega)]; done)
        | (rw [if_neg (by omega), if_neg (by omega), if_neg (by omega), if_neg (by omega), if_neg (by omega), if_neg (by omega)]; done)
    refine x_iload_n 49 C dX7_joined_48 rfl rfl rfl ?_
    first
      | refine x_ifb_eq 56 52 C dX7_joined_49 rfl rfl (fun h49 => ?_) (fun h49 => ?_)
      | refine x_if_eq 56 52 C dX7_joined_49 rfl rfl (by omega) (fun h49 => ?_) (fun h49 => ?_)
    · refine x_iconst 57 C dX7_joined_56 rfl ?_
      refine x_iret C T dX7_joined_57 ?_
      refine PE_i ?_ (by first | omega | exact wrap_in _)
      unfold binF
      first
        | (rw [if_pos (by omega)]; first | (rw [if_pos (by omega)]; done) | (rw [if_neg (by omega)]; done))
        | (rw [if_neg (by omega), if_pos (by omega)]; first | (rw [if_pos (by omega)]; done) | (rw [if_neg (by omega)]; done))
        | (rw [if_neg (by omega), if_neg (by omega), if_pos (by omega)]; first | (rw [if_pos (by omega)]; done) | (rw [if_neg (by omega)]; done))
        | (rw [if_neg (by omega), if_neg (by omega), if_neg (by omega), if_pos (by omega)]; first | (rw [if_pos (by omega)]; done) | (rw [if_neg (by omega)]; done))
        | (rw [if_neg (by omega), if_neg (by omega), if_neg (by omega), if_neg (by omega), if_pos (by omega)]; done)
        | (rw [if_neg (by omega), if_neg (by omega), if_neg (by omega), if_neg (by omega), if_neg (by omega), if_pos (by omega)]; done)
        | (rw [if_neg (by omega), if_neg (by omega), if_neg (by omega), if_neg (by omega), if_neg (by omega), if_neg (by omega)]; done)
    refine x_iconst 53 C dX7_joined_52 rfl ?_
    refine x_goto 57 C dX7_joined_53 rfl ?_
    refine x_iret C T dX7_joined_57 ?_
    refine PE_i ?_ (by first | omega | exact wrap_in _)
    unfold binF
    first
      | (rw [if_pos (by omega)]; first | (rw [if_pos (by omega)]; done) | (rw [if_neg (by omega)]; done))
      | (rw [if_neg (by omega), if_pos (by omega)]; first | (rw [if_pos (by omega)]; done) | (rw [if_neg (by omega)]; done))
      | (rw [if_neg (by omega), if_neg (by omega), if_pos (by omega)]; first | (rw [if_pos (by omega)]; done) | (rw [if_neg (by omega)]; done))
      | (rw [if_neg (by omega), if_neg (by omega), if_neg (by omega), if_pos (by omega)]; first | (rw [if_pos (by omega)]; done) | (rw [if_neg (by omega)]; done))
      | (rw [if_neg (by omega), if_neg (by omega), if_neg (by omega), if_neg (by omega), if_pos (by omega)]; done)
      | (rw [if_neg (by omega), if_neg (by omega), if_neg (by omega), if_neg (by omega), if_neg (by omega), if_pos (by omega)]; done)
      | (rw [if_neg (by omega), if_neg (by omega), if_neg (by omega), if_neg (by omega), if_neg (by omega), if_neg (by omega)]; done)
  | j + 7, hj => exact absurd hj (by simp)

/-- a row that holds a stack, its top first in the list -/
def SK (f : Nat → Int) : List Int → Prop
  | [] => True
  | x :: q => f q.length = x ∧ SK f q
theorem SK_ext {f g : Nat → Int} : ∀ (st : List Int), (∀ j, j < st.length → g j = f j) → SK f st → SK g st
  | [], _, _ => trivial
  | x :: q, h, ⟨h1, h2⟩ => ⟨by rw [h q.length (by simp)]; exact h1, SK_ext q (fun j hj => h j (by simp only [List.length_cons]; omega)) h2⟩
theorem SK_up {σ : Sig} {a i : Nat} {v : Int} {st : List Int} (h : SK (σ a) st) (hi : st.length ≤ i) : SK (up σ a i v a) st := SK_ext st (fun j hj => by rw [up_i (by omega)]) h
theorem SK_push {σ : Sig} {a : Nat} {v : Int} {st : List Int} {i : Nat} (h : SK (σ a) st) (hi : i = st.length) : SK (up σ a i v a) (v :: st) := ⟨by rw [← hi, up_s], SK_up h (by omega)⟩
theorem SK_top {f : Nat → Int} {st : List Int} (h : SK f st) (hl : 1 ≤ st.length) : ∃ q, st = f q.length :: q ∧ SK f q := by
  cases st with
  | nil => simp at hl
  | cons x q => exact ⟨q, by rw [h.1], h.2⟩
/-- the class's texts are X -/
def HC (σ : Sig) (X : Nat → RuT) (tc : Nat) (cl : Nat → Nat) : Prop := tc ≤ 6 ∧ ∀ t, t < tc → σ (79 + 3 * t) 1 = ((X t).1.length : Int) ∧ σ (79 + 3 * t) 2 = (((X t).1.length + (X t).2.1.length : Nat) : Int) ∧ cl t = (X t).1.length + (X t).2.1.length + (X t).2.2.length ∧ cl t ≤ 160 ∧ (∀ i x, ((X t).1 ++ (X t).2.1 ++ (X t).2.2)[i]? = some x → σ (79 + 3 * t + 1) i = x) ∧ WL (X t).1 ∧ WL (X t).2.1 ∧ WL (X t).2.2
def nmC (s : Sig) : Nat → Int := nmF (s 33 0) (s 33 1) (s 33 2) (s 33 3) (s 33 4) (s 33 5)
theorem nmC_at {s : Sig} {j : Nat} (h : j < 6) : nmC s j = s 33 j := by
  have : j = 0 ∨ j = 1 ∨ j = 2 ∨ j = 3 ∨ j = 4 ∨ j = 5 := by omega
  rcases this with rfl | rfl | rfl | rfl | rfl | rfl <;> rfl
theorem nmC_in {s : Sig} (h : Rng s) : ∀ j, -2147483648 ≤ nmC s j ∧ nmC s j ≤ 2147483647 := nmF_in (h _ _ (by omega)) (h _ _ (by omega)) (h _ _ (by omega)) (h _ _ (by omega)) (h _ _ (by omega)) (h _ _ (by omega))
/-- where a part stands in the code -/
theorem HC_part {σ : Sig} {X : Nat → RuT} {tc : Nat} {cl : Nat → Nat} (h : HC σ X tc cl) {t : Nat} (ht : t < tc) {w : Int} (hw : 0 ≤ w ∧ w ≤ 2) : ∃ fr : Nat, (fr : Int) = (if w = 0 then 0 else if w = 1 then σ (79 + 3 * t) 1 else σ (79 + 3 * t) 2) ∧ ((fr + (prt w (X t)).length : Nat) : Int) = (if w = 0 then σ (79 + 3 * t) 1 else if w = 1 then σ (79 + 3 * t) 2 else (cl t : Int)) ∧ fr + (prt w (X t)).length ≤ cl t ∧ (∀ i x, (prt w (X t))[i]? = some x → σ (79 + 3 * t + 1) (fr + i) = x) ∧ WL (prt w (X t)) := by
  obtain ⟨h1, h2, h3, h4, h5, h6, h7, h8⟩ := h.2 t ht
  have hc : w = 0 ∨ w = 1 ∨ w = 2 := by omega
  rcases hc with rfl | rfl | rfl
  · refine ⟨0, rfl, ?_, ?_, fun i x hi => ?_, h6⟩
    · show ((0 + (X t).1.length : Nat) : Int) = σ (79 + 3 * t) 1
      omega
    · show 0 + (X t).1.length ≤ _
      omega
    · rw [Nat.zero_add]
      have hl := (List.getElem?_eq_some_iff.mp hi).1
      have hl2 : i < (X t).1.length := hl
      refine h5 i x ?_
      rw [List.append_assoc, List.getElem?_append_left hl2]
      exact hi
  · refine ⟨(X t).1.length, ?_, ?_, ?_, fun i x hi => ?_, h7⟩
    · exact h1.symm
    · show (((X t).1.length + (X t).2.1.length : Nat) : Int) = σ (79 + 3 * t) 2
      omega
    · show (X t).1.length + (X t).2.1.length ≤ _
      omega
    · have hl := (List.getElem?_eq_some_iff.mp hi).1
      have hl2 : i < (X t).2.1.length := hl
      refine h5 _ x ?_
      rw [List.append_assoc, List.getElem?_append_right (by omega), List.getElem?_append_left (by omega), show (X t).1.length + i - (X t).1.length = i by omega]
      exact hi
  · refine ⟨(X t).1.length + (X t).2.1.length, ?_, ?_, ?_, fun i x hi => ?_, h8⟩
    · exact h2.symm
    · show (((X t).1.length + (X t).2.1.length + (X t).2.2.length : Nat) : Int) = (cl t : Int)
      omega
    · show (X t).1.length + (X t).2.1.length + (X t).2.2.length ≤ _
      omega
    · refine h5 _ x ?_
      rw [List.getElem?_append_right (by simp only [List.length_append]; omega), List.length_append, show (X t).1.length + (X t).2.1.length + i - ((X t).1.length + (X t).2.1.length) = i by omega]
      exact hi
theorem stepG_push {nm : Nat → Int} {c : Int} {st : List Int} (h : -7 < c ∧ st.length < 40) : stepG nm c st = (if 0 ≤ c then c else nm (-1 - c).toNat) :: st := by unfold stepG; rw [if_pos h]
theorem stepG_not {nm : Nat → Int} {c x : Int} {q : List Int} (h : ¬ (-7 < c ∧ (x :: q).length < 40)) (hc : c = -9) : stepG nm c (x :: q) = (if x = 0 then 1 else 0) :: q := by unfold stepG; rw [if_neg h, if_pos ⟨hc, by simp⟩]
theorem stepG_neg {nm : Nat → Int} {c x : Int} {q : List Int} (h : ¬ (-7 < c ∧ (x :: q).length < 40)) (hc : c = -15) : stepG nm c (x :: q) = wrap (-x) :: q := by unfold stepG; rw [if_neg h, if_neg (by omega), if_pos ⟨hc, by simp⟩]
theorem stepG_bin {nm : Nat → Int} {c x y : Int} {q : List Int} (h : ¬ (-7 < c ∧ (y :: x :: q).length < 40)) (hc : c ≠ -9 ∧ c ≠ -15) : stepG nm c (y :: x :: q) = binF c x y :: q := by unfold stepG; rw [if_neg h, if_neg (by omega), if_neg (by omega)]
theorem stepG_skip {nm : Nat → Int} {c : Int} {st : List Int} (h : ¬ (-7 < c ∧ st.length < 40)) (h1 : ¬ (c = -9 ∧ 1 ≤ st.length)) (h2 : ¬ (c = -15 ∧ 1 ≤ st.length)) (h3 : ¬ 2 ≤ st.length) : stepG nm c st = st := by
  unfold stepG
  rw [if_neg h, if_neg h1, if_neg h2]
  cases st with
  | nil => rfl
  | cons x q =>
    cases q with
    | nil => rfl
    | cons y q => simp at h3
set_option maxHeartbeats 4000000 in
set_option maxRecDepth 100000 in
theorem c_X7_valueOf {l : Launch} {G : Gt} {ρ : Nat → Nat} {tc : Nat} {cl : Nat → Nat} {σ : Sig} {X : Nat → RuT} {t : Nat} {w : Int} (hX : HC σ X tc cl) (ht : t < tc) (hw : 0 ≤ w ∧ w ≤ 2) : MX l yX7_valueOf cX7_valueOf 8 (some .int) 1 22 G (NN tc) ρ (shp tc cl) [.ref (ρ (79 + 3 * t)), .int (iZ w), .ref (ρ 33)] σ (PI (fun z σ' => (∀ a, a ≠ 79 + 3 * t + 2 → σ' a = σ a) ∧ z = evL (nmC σ) (prt w (X t)))) := by
  refine MX_of [some (.ref (ρ (79 + 3 * t))), some (.int (iZ w)), some (.ref (ρ 33)), none, none, none, none, none] (by decide +kernel) rfl rfl (Nat.le_of_ble_eq_true rfl) ?_
  intro K hKl C T hRng
  subst hKl
  obtain ⟨fr, hfr1, hfr2, hfr3, hcode, hWL⟩ := HC_part hX ht hw
  obtain ⟨v, hv⟩ := hWL (nmC σ) (nmC_in hRng)
  have hev := evL_bal hv (by omega)
  have hrun0 : runG (nmC σ) (prt w (X t)) [] = [v] := hv.2 [] (by simp)
  have hcl := (hX.2 t ht).2.2.2.1
  have htc := hX.1
  have hvr := hv.1
  have J24 : ∀ (u : Int), (u = (fr : Int)) → Ex K G (NN tc) ρ (shp tc cl) 24 [some (.ref (ρ (79 + 3 * t))), some (.int (iZ w)), some (.ref (ρ 33)), none, none, none, none, none] [.int (iZ u)] σ := by
    intro u hinv
    subst hinv
    refine x_istore_n3 25 C dX7_valueOf_24 rfl rfl ?_
    have J53 : ∀ (u : Int), (u = ((fr + (prt w (X t)).length : Nat) : Int)) → Ex K G (NN tc) ρ (shp tc cl) 53 [some (.ref (ρ (79 + 3 * t))), some (.int (iZ w)), some (.ref (ρ 33)), some (.int (iZ (fr : Int))), none, none, none, none] [.int (iZ u)] σ := by
      intro u hinv
      subst hinv
      refine x_istore_4 55 C dX7_valueOf_53 rfl rfl ?_
      refine x_iconst 56 C dX7_valueOf_55 rfl ?_
      refine x_istore_5 58 C dX7_valueOf_56 rfl rfl ?_
      refine x_iload_n 59 C dX7_valueOf_58 rfl rfl rfl ?_
      refine x_istore_6 61 C dX7_valueOf_59 rfl rfl ?_
      have L61 : ∀ (m : Nat) (i : Nat) (y tp : Int) (s1 : Sig), m = (prt w (X t)).length - i → ((i : Nat) ≤ (prt w (X t)).length ∧ y = ((fr + i : Nat) : Int) ∧ (∀ a, a ≠ 79 + 3 * t + 2 → s1 a = σ a) ∧ ∃ st : List Int, (st.length : Int) = tp + 1 ∧ st.length ≤ 40 ∧ SK (s1 (79 + 3 * t + 2)) st ∧ runG (nmC σ) ((prt w (X t)).drop i) st = [v]) → Ex K G (NN tc) ρ (shp tc cl) 61 [some (.ref (ρ (79 + 3 * t))), some (.int (iZ w)), some (.ref (ρ 33)), some (.int (iZ (fr : Int))), some (.int (iZ ((fr + (prt w (X t)).length : Nat) : Int))), some (.int (iZ tp)), some (.int (iZ y)), none] [] s1 := by
        intro m
        induction m using Nat.strongRecOn with
        | ind m ih =>
          intro i y tp s1 hm hinv
          obtain ⟨hi, rfl, hf, st, hst1, hst2, hSK, hrun⟩ := hinv
          have ec : s1 (79 + 3 * t + 1) = σ (79 + 3 * t + 1) := hf _ (by omega)
          have hr1 := hRng
          refine x_iload 63 C dX7_valueOf_61 rfl rfl ?_
          refine x_iload 65 C dX7_valueOf_63 rfl rfl ?_
          refine x_icmp_ge 232 68 C dX7_valueOf_65 rfl rfl (by omega) (by omega) (fun h65 => ?_) (fun h65 => ?_)
          · refine x_aload_n 233 C dX7_valueOf_232 rfl rfl rfl ?_
            refine x_getr (j := 3) 236 C (sh_text t) (by unfold NN; omega) rfl rfl (by decide) inT7 tb_2_90 rfl dX7_valueOf_233 rfl ?_
            refine x_iconst 237 C dX7_valueOf_236 rfl ?_
            refine x_iald 238 C (sh_stack t) (by unfold NN; omega) dX7_valueOf_237 rfl (by omega) (by omega) (fun r237 => ?_)
            refine x_iret C T dX7_valueOf_238 ?_
            have hst : st = [v] := by rw [show i = (prt w (X t)).length by omega, List.drop_length] at hrun; exact hrun
            subst hst
            refine PI_i (by have := hSK.1; simp only [List.length_nil] at this; rw [show (0 : Int).toNat = 0 from rfl, this]; exact hvr) ⟨hf, ?_⟩
            rw [hev]
            exact hSK.1
          refine x_aload_n 69 C dX7_valueOf_68 rfl rfl rfl ?_
          refine x_getr (j := 0) 72 C (sh_text t) (by unfold NN; omega) rfl rfl (by decide) inT7 tb_2_87 rfl dX7_valueOf_69 rfl ?_
          refine x_iload 74 C dX7_valueOf_72 rfl rfl ?_
          refine x_iald 75 C (sh_code t) (by unfold NN; omega) dX7_valueOf_74 rfl (by omega) (by omega) (fun r74 => ?_)
          have J226 : ∀ (s9 : Sig) (tp9 : Int) (u : Unit), ((∀ a, a ≠ 79 + 3 * t + 2 → s9 a = σ a) ∧ ∃ st : List Int, (st.length : Int) = tp9 + 1 ∧ st.length ≤ 40 ∧ SK (s9 (79 + 3 * t + 2)) st ∧ runG (nmC σ) ((prt w (X t)).drop (i + 1)) st = [v]) → Ex K G (NN tc) ρ (shp tc cl) 226 [some (.ref (ρ (79 + 3 * t))), some (.int (iZ w)), some (.ref (ρ 33)), some (.int (iZ (fr : Int))), some (.int (iZ ((fr + (prt w (X t)).length : Nat) : Int))), some (.int (iZ tp9)), some (.int (iZ ((fr + i : Nat) : Int))), some (.int (iZ (s1 (79 + 3 * t + 1) (fr + i))))] [] s9 := by
            intro s9 tp9 u hinv
            obtain ⟨hf9, st9, k1, k2, k3, k4⟩ := hinv
            skip
            refine x_iinc_6 229 C dX7_valueOf_226 rfl rfl ?_
            refine x_goto 61 C dX7_valueOf_229 rfl ?_
            refine x_drop_7 ?_
            refine ih _ ?_ (i + 1) _ _ _ rfl ⟨by omega, by omega, hf9, st9, k1, k2, k3, k4⟩
            omega
          rw [show (((fr + i : Nat) : Int)).toNat = fr + i by omega] at r74 ⊢
          have hil : i < (prt w (X t)).length := by omega
          obtain ⟨c, hc⟩ : ∃ c, (prt w (X t))[i]? = some c := ⟨_, List.getElem?_eq_getElem hil⟩
          have hcc : s1 (79 + 3 * t + 1) (fr + i) = c := by rw [ec]; exact hcode i c hc
          have hdrop : (prt w (X t)).drop i = s1 (79 + 3 * t + 1) (fr + i) :: (prt w (X t)).drop (i + 1) := by
            rw [hcc, List.drop_eq_getElem_cons hil]
            congr 1
            rw [List.getElem?_eq_getElem hil] at hc
            exact Option.some.inj hc
          have hnext : ∀ (s9 : Sig) (st9 : List Int) (tp9 : Int), (∀ a, a ≠ 79 + 3 * t + 2 → s9 a = s1 a) → (st9.length : Int) = tp9 + 1 → st9.length ≤ 40 → SK (s9 (79 + 3 * t + 2)) st9 → stepG (nmC σ) (s1 (79 + 3 * t + 1) (fr + i)) st = st9 → Ex K G (NN tc) ρ (shp tc cl) 226 [some (.ref (ρ (79 + 3 * t))), some (.int (iZ w)), some (.ref (ρ 33)), some (.int (iZ (fr : Int))), some (.int (iZ ((fr + (prt w (X t)).length : Nat) : Int))), some (.int (iZ tp9)), some (.int (iZ ((fr + i : Nat) : Int))), some (.int (iZ (s1 (79 + 3 * t + 1) (fr + i))))] [] s9 := by
            intro s9 st9 tp9 g1 g2 g3 g4 g5
            exact J226 _ _ () ⟨fun a ha => (g1 a ha).trans (hf a ha), st9, g2, g3, g4, by rw [hdrop] at hrun; simp only [runG] at hrun; rw [g5] at hrun; exact hrun⟩
          refine x_istore_7 77 C dX7_valueOf_75 rfl rfl ?_
          have J122 : ∀ (u : Unit), (¬ (-7 < s1 (79 + 3 * t + 1) (fr + i) ∧ st.length < 40)) → Ex K G (NN tc) ρ (shp tc cl) 122 [some (.ref (ρ (79 + 3 * t))), some (.int (iZ w)), some (.ref (ρ 33)), some (.int (iZ (fr : Int))), some (.int (iZ ((fr + (prt w (X t)).length : Nat) : Int))), some (.int (iZ tp)), some (.int (iZ ((fr + i : Nat) : Int))), some (.int (iZ (s1 (79 + 3 * t + 1) (fr + i))))] [] s1 := by
            intro u hinv
            have hnp := hinv
            have J159 : ∀ (u : Unit), (¬ (s1 (79 + 3 * t + 1) (fr + i) = -9 ∧ 1 ≤ st.length)) → Ex K G (NN tc) ρ (shp tc cl) 159 [some (.ref (ρ (79 + 3 * t))), some (.int (iZ w)), some (.ref (ρ 33)), some (.int (iZ (fr : Int))), some (.int (iZ ((fr + (prt w (X t)).length : Nat) : Int))), some (.int (iZ tp)), some (.int (iZ ((fr + i : Nat) : Int))), some (.int (iZ (s1 (79 + 3 * t + 1) (fr + i))))] [] s1 := by
              intro u hinv
              have hnn := hinv
              have J189 : ∀ (u : Unit), (¬ (s1 (79 + 3 * t + 1) (fr + i) = -15 ∧ 1 ≤ st.length)) → Ex K G (NN tc) ρ (shp tc cl) 189 [some (.ref (ρ (79 + 3 * t))), some (.int (iZ w)), some (.ref (ρ 33)), some (.int (iZ (fr : Int))), some (.int (iZ ((fr + (prt w (X t)).length : Nat) : Int))), some (.int (iZ tp)), some (.int (iZ ((fr + i : Nat) : Int))), some (.int (iZ (s1 (79 + 3 * t + 1) (fr + i))))] [] s1 := by
                intro u hinv
                have hng := hinv
                refine x_iload 191 C dX7_valueOf_189 rfl rfl ?_
                refine x_iconst 192 C dX7_valueOf_191 rfl ?_
                refine x_icmp_lt 226 195 C dX7_valueOf_192 rfl rfl (by omega) (by omega) (fun h192 => ?_) (fun h192 => ?_)
                · exact hnext _ st tp (fun _ _ => rfl) hst1 hst2 hSK (stepG_skip hnp hnn hng (by omega)) --END
                obtain ⟨q1, hq1, hSq1⟩ := SK_top hSK (by omega)
                obtain ⟨q, hq, hSq⟩ := SK_top hSq1 (by rw [hq1] at hst1; simp only [List.length_cons] at hst1; omega)
                have hql : (q.length : Int) = tp - 1 := by rw [hq1, hq] at hst1; simp only [List.length_cons] at hst1; omega
                have hql1 : (q1.length : Int) = tp := by rw [hq1] at hst1; simp only [List.length_cons] at hst1; omega
                have htq : (tp + -1).toNat = q.length := by omega
                have htq1 : (tp + -1 + 1).toNat = q1.length := by omega
                refine x_iinc_5 198 C dX7_valueOf_195 rfl rfl ?_
                refine x_aload_n 199 C dX7_valueOf_198 rfl rfl rfl ?_
                refine x_getr (j := 3) 202 C (sh_text t) (by unfold NN; omega) rfl rfl (by decide) inT7 tb_2_90 rfl dX7_valueOf_199 rfl ?_
                refine x_iload 204 C dX7_valueOf_202 rfl rfl ?_
                refine x_iload 206 C dX7_valueOf_204 rfl rfl ?_
                refine x_aload_n 207 C dX7_valueOf_206 rfl rfl rfl ?_
                refine x_getr (j := 3) 210 C (sh_text t) (by unfold NN; omega) rfl rfl (by decide) inT7 tb_2_90 rfl dX7_valueOf_207 rfl ?_
                refine x_iload 212 C dX7_valueOf_210 rfl rfl ?_
                refine x_iald 213 C (sh_stack t) (by unfold NN; omega) dX7_valueOf_212 rfl (by omega) (by omega) (fun r212 => ?_)
                refine x_aload_n 214 C dX7_valueOf_213 rfl rfl rfl ?_
                refine x_getr (j := 3) 217 C (sh_text t) (by unfold NN; omega) rfl rfl (by decide) inT7 tb_2_90 rfl dX7_valueOf_214 rfl ?_
                refine x_iload 219 C dX7_valueOf_217 rfl rfl ?_
                refine x_iconst 220 C dX7_valueOf_219 rfl ?_
                refine x_iadd 221 C dX7_valueOf_220 rfl ?_
                refine x_iald 222 C (sh_stack t) (by unfold NN; omega) dX7_valueOf_221 rfl (by omega) (by omega) (fun r221 => ?_)
                refine x_callSe 225 C dX7_valueOf_222 rfl (c_X7_joined (by omega) (by omega) (by omega)) tb_3_113 tb_3_114 tb_1_14 tb_3_115 (na := 3) (by decide +kernel) rfl ⟨by decide, by decide⟩ rfl (Nat.le_of_ble_eq_true rfl) rfl (fun r222 => ?_)
                refine x_iast 226 C (sh_stack t) (by unfold NN; omega) dX7_valueOf_225 rfl (by omega) (by omega) (by omega) ?_
                refine hnext _ (binF (s1 (79 + 3 * t + 1) (fr + i)) (s1 (79 + 3 * t + 2) q.length) (s1 (79 + 3 * t + 2) q1.length) :: q) _ (fun a ha => up_row ha) (by simp only [List.length_cons]; omega) (by simp only [List.length_cons]; omega) ?_ (by rw [hq1, hq]; exact stepG_bin (by rw [hq1, hq] at hnp; exact hnp) (by rw [hq1] at hnn hng; simp only [List.length_cons] at hnn hng; omega))
                rw [htq, htq1]
                exact SK_push hSq rfl
              refine x_iload 161 C dX7_valueOf_159 rfl rfl ?_
              refine x_bipush 163 C dX7_valueOf_161 rfl rfl ?_
              refine x_icmp_ne 189 166 C dX7_valueOf_163 rfl rfl (by omega) (by omega) (fun h163 => ?_) (fun h163 => ?_)
              · exact J189 () (by omega)
              refine x_iload 168 C dX7_valueOf_166 rfl rfl ?_
              refine x_if_lt 189 171 C dX7_valueOf_168 rfl rfl (by omega) (fun h168 => ?_) (fun h168 => ?_)
              · exact J189 () (by omega)
              refine x_aload_n 172 C dX7_valueOf_171 rfl rfl rfl ?_
              obtain ⟨q, hq, hSq⟩ := SK_top hSK (by omega)
              have hql : (q.length : Int) = tp := by rw [hq] at hst1; simp only [List.length_cons] at hst1; omega
              have htq : tp.toNat = q.length := by omega
              refine x_getr (j := 3) 175 C (sh_text t) (by unfold NN; omega) rfl rfl (by decide) inT7 tb_2_90 rfl dX7_valueOf_172 rfl ?_
              refine x_iload 177 C dX7_valueOf_175 rfl rfl ?_
              refine x_aload_n 178 C dX7_valueOf_177 rfl rfl rfl ?_
              refine x_getr (j := 3) 181 C (sh_text t) (by unfold NN; omega) rfl rfl (by decide) inT7 tb_2_90 rfl dX7_valueOf_178 rfl ?_
              refine x_iload 183 C dX7_valueOf_181 rfl rfl ?_
              refine x_iald 184 C (sh_stack t) (by unfold NN; omega) dX7_valueOf_183 rfl (by omega) (by omega) (fun r183 => ?_)
              refine x_ineg 185 C dX7_valueOf_184 rfl ?_
              refine x_wrap 185 C rfl ?_
              refine x_iast 186 C (sh_stack t) (by unfold NN; omega) dX7_valueOf_185 rfl (by omega) (by omega) (wrap_in _) ?_
              refine x_goto 226 C dX7_valueOf_186 rfl ?_
              refine hnext _ (wrap (-s1 (79 + 3 * t + 2) q.length) :: q) tp ?_ ?_ ?_ ?_ ?_
              · exact fun a ha => up_row ha
              · simp only [List.length_cons]; omega
              · rw [hq] at hst2; exact hst2
              · rw [htq]; exact SK_push hSq rfl
              · rw [hq]; exact stepG_neg (by rw [hq] at hnp; exact hnp) (by omega) --END
            refine x_iload 124 C dX7_valueOf_122 rfl rfl ?_
            refine x_bipush 126 C dX7_valueOf_124 rfl rfl ?_
            refine x_icmp_ne 159 129 C dX7_valueOf_126 rfl rfl (by omega) (by omega) (fun h126 => ?_) (fun h126 => ?_)
            · exact J159 () (by omega)
            refine x_iload 131 C dX7_valueOf_129 rfl rfl ?_
            refine x_if_lt 159 134 C dX7_valueOf_131 rfl rfl (by omega) (fun h131 => ?_) (fun h131 => ?_)
            · exact J159 () (by omega)
            refine x_aload_n 135 C dX7_valueOf_134 rfl rfl rfl ?_
            obtain ⟨q, hq, hSq⟩ := SK_top hSK (by omega)
            have hql : (q.length : Int) = tp := by rw [hq] at hst1; simp only [List.length_cons] at hst1; omega
            have htq : tp.toNat = q.length := by omega
            refine x_getr (j := 3) 138 C (sh_text t) (by unfold NN; omega) rfl rfl (by decide) inT7 tb_2_90 rfl dX7_valueOf_135 rfl ?_
            refine x_iload 140 C dX7_valueOf_138 rfl rfl ?_
            refine x_aload_n 141 C dX7_valueOf_140 rfl rfl rfl ?_
            refine x_getr (j := 3) 144 C (sh_text t) (by unfold NN; omega) rfl rfl (by decide) inT7 tb_2_90 rfl dX7_valueOf_141 rfl ?_
            refine x_iload 146 C dX7_valueOf_144 rfl rfl ?_
            refine x_iald 147 C (sh_stack t) (by unfold NN; omega) dX7_valueOf_146 rfl (by omega) (by omega) (fun r146 => ?_)
            have J155 : ∀ (x : Int), (x = (if s1 (79 + 3 * t + 2) q.length = 0 then 1 else 0)) → Ex K G (NN tc) ρ (shp tc cl) 155 [some (.ref (ρ (79 + 3 * t))), some (.int (iZ w)), some (.ref (ρ 33)), some (.int (iZ (fr : Int))), some (.int (iZ ((fr + (prt w (X t)).length : Nat) : Int))), some (.int (iZ tp)), some (.int (iZ ((fr + i : Nat) : Int))), some (.int (iZ (s1 (79 + 3 * t + 1) (fr + i))))] [.int (iZ x), .int (iZ tp), .ref (ρ (79 + 3 * t + 2))] s1 := by
              intro x hinv
              have hx := hinv
              have hxr : 0 ≤ x ∧ x ≤ 1 := by rw [hx]; split <;> omega
              refine x_iast 156 C (sh_stack t) (by unfold NN; omega) dX7_valueOf_155 rfl (by omega) (by omega) (by omega) ?_
              refine x_goto 226 C dX7_valueOf_156 rfl ?_
              refine hnext _ ((if s1 (79 + 3 * t + 2) q.length = 0 then 1 else 0) :: q) tp ?_ ?_ ?_ ?_ ?_
              · exact fun a ha => up_row ha
              · simp only [List.length_cons]; omega
              · rw [hq] at hst2; exact hst2
              · rw [htq, ← hx]; exact SK_push hSq rfl
              · rw [hq]; exact stepG_not (by rw [hq] at hnp; exact hnp) (by omega) --END
            refine x_if_ne 154 150 C dX7_valueOf_147 rfl rfl (by omega) (fun h147 => ?_) (fun h147 => ?_)
            · refine x_iconst 155 C dX7_valueOf_154 rfl ?_
              exact J155 _ (by rw [htq] at h147; first | rw [if_pos h147] | rw [if_neg h147])
            refine x_iconst 151 C dX7_valueOf_150 rfl ?_
            refine x_goto 155 C dX7_valueOf_151 rfl ?_
            exact J155 _ (by rw [htq] at h147; first | rw [if_pos h147] | rw [if_neg h147])
          refine x_iload 79 C dX7_valueOf_77 rfl rfl ?_
          refine x_bipush 81 C dX7_valueOf_79 rfl rfl ?_
          refine x_icmp_le 122 84 C dX7_valueOf_81 rfl rfl (by omega) (by omega) (fun h81 => ?_) (fun h81 => ?_)
          · exact J122 () (by omega)
          refine x_iload 86 C dX7_valueOf_84 rfl rfl ?_
          refine x_iconst 87 C dX7_valueOf_86 rfl ?_
          refine x_iadd 88 C dX7_valueOf_87 rfl ?_
          refine x_bipush 90 C dX7_valueOf_88 rfl rfl ?_
          refine x_icmp_ge 122 93 C dX7_valueOf_90 rfl rfl (by omega) (by omega) (fun h90 => ?_) (fun h90 => ?_)
          · exact J122 () (by omega)
          refine x_iinc_5 96 C dX7_valueOf_93 rfl rfl ?_
          refine x_aload_n 97 C dX7_valueOf_96 rfl rfl rfl ?_
          refine x_getr (j := 3) 100 C (sh_text t) (by unfold NN; omega) rfl rfl (by decide) inT7 tb_2_90 rfl dX7_valueOf_97 rfl ?_
          refine x_iload 102 C dX7_valueOf_100 rfl rfl ?_
          have J118 : ∀ (x : Int), (x = (if 0 ≤ s1 (79 + 3 * t + 1) (fr + i) then s1 (79 + 3 * t + 1) (fr + i) else nmC σ (-1 - s1 (79 + 3 * t + 1) (fr + i)).toNat)) → Ex K G (NN tc) ρ (shp tc cl) 118 [some (.ref (ρ (79 + 3 * t))), some (.int (iZ w)), some (.ref (ρ 33)), some (.int (iZ (fr : Int))), some (.int (iZ ((fr + (prt w (X t)).length : Nat) : Int))), some (.int (iZ (tp + 1))), some (.int (iZ ((fr + i : Nat) : Int))), some (.int (iZ (s1 (79 + 3 * t + 1) (fr + i))))] [.int (iZ x), .int (iZ (tp + 1)), .ref (ρ (79 + 3 * t + 2))] s1 := by
            intro x hinv
            have hx := hinv
            have hnr := nmC_in hRng (-1 - s1 (79 + 3 * t + 1) (fr + i)).toNat
            have hxr : -2147483648 ≤ x ∧ x ≤ 2147483647 := by rw [hx]; split <;> omega
            refine x_iast 119 C (sh_stack t) (by unfold NN; omega) dX7_valueOf_118 rfl (by omega) (by omega) (by omega) ?_
            refine x_goto 226 C dX7_valueOf_119 rfl ?_
            refine hnext _ (x :: st) (tp + 1) ?_ ?_ ?_ ?_ ?_
            · exact fun a ha => up_row ha
            · simp only [List.length_cons]; omega
            · simp only [List.length_cons]; omega
            · exact SK_push hSK (by omega)
            · rw [stepG_push (by omega), hx] --END
          refine x_iload 104 C dX7_valueOf_102 rfl rfl ?_
          refine x_if_lt 112 107 C dX7_valueOf_104 rfl rfl (by omega) (fun h104 => ?_) (fun h104 => ?_)
          · refine x_aload_n 113 C dX7_valueOf_112 rfl rfl rfl ?_
            refine x_iconst 114 C dX7_valueOf_113 rfl ?_
            refine x_iload 116 C dX7_valueOf_114 rfl rfl ?_
            refine x_isub 117 C dX7_valueOf_116 rfl ?_
            refine x_iald 118 C rfl (lt79 (by decide)) dX7_valueOf_117 rfl (by omega) (by omega) (fun r117 => ?_)
            exact J118 _ (by first | rw [if_pos (by omega)] | (rw [if_neg (by omega), nmC_at (by omega), hf 33 (by omega)]))
          refine x_iload 109 C dX7_valueOf_107 rfl rfl ?_
          refine x_goto 118 C dX7_valueOf_109 rfl ?_
          exact J118 _ (by first | rw [if_pos (by omega)] | (rw [if_neg (by omega), nmC_at (by omega), hf 33 (by omega)]))
      exact L61 _ 0 _ _ _ rfl ⟨by omega, rfl, fun _ _ => rfl, [], rfl, by simp, trivial, hrun0⟩
    refine x_iload_n 26 C dX7_valueOf_25 rfl rfl rfl ?_
    refine x_if_ne 36 29 C dX7_valueOf_26 rfl rfl (by omega) (fun h26 => ?_) (fun h26 => ?_)
    rotate_left
    · refine x_aload_n 30 C dX7_valueOf_29 rfl rfl rfl ?_
      refine x_geti (j := 1) 33 C (sh_text t) (by unfold NN; omega) rfl rfl (by decide) inT7 tb_2_88 rfl dX7_valueOf_30 rfl (fun r30 => ?_)
      refine x_goto 53 C dX7_valueOf_33 rfl ?_
      exact J53 _ (by first | (rw [if_pos (by omega)] at hfr2; omega) | (rw [if_neg (by omega), if_pos (by omega)] at hfr2; omega) | (rw [if_neg (by omega), if_neg (by omega)] at hfr2; omega))
    refine x_iload_n 37 C dX7_valueOf_36 rfl rfl rfl ?_
    refine x_iconst 38 C dX7_valueOf_37 rfl ?_
    refine x_icmp_ne 48 41 C dX7_valueOf_38 rfl rfl (by omega) (by omega) (fun h38 => ?_) (fun h38 => ?_)
    · refine x_aload_n 49 C dX7_valueOf_48 rfl rfl rfl ?_
      refine x_getr (j := 0) 52 C (sh_text t) (by unfold NN; omega) rfl rfl (by decide) inT7 tb_2_87 rfl dX7_valueOf_49 rfl ?_
      refine x_alen 53 C (sh_code t) (by unfold NN; omega) dX7_valueOf_52 rfl ?_
      exact J53 _ (by first | (rw [if_pos (by omega)] at hfr2; omega) | (rw [if_neg (by omega), if_pos (by omega)] at hfr2; omega) | (rw [if_neg (by omega), if_neg (by omega)] at hfr2; omega))
    refine x_aload_n 42 C dX7_valueOf_41 rfl rfl rfl ?_
    refine x_geti (j := 2) 45 C (sh_text t) (by unfold NN; omega) rfl rfl (by decide) inT7 tb_2_89 rfl dX7_valueOf_42 rfl (fun r42 => ?_)
    refine x_goto 53 C dX7_valueOf_45 rfl ?_
    exact J53 _ (by first | (rw [if_pos (by omega)] at hfr2; omega) | (rw [if_neg (by omega), if_pos (by omega)] at hfr2; omega) | (rw [if_neg (by omega), if_neg (by omega)] at hfr2; omega))
  refine x_iload_n 1 C dX7_valueOf_0 rfl rfl rfl ?_
  refine x_if_ne 8 4 C dX7_valueOf_1 rfl rfl (by omega) (fun h1 => ?_) (fun h1 => ?_)
  rotate_left
  · refine x_iconst 5 C dX7_valueOf_4 rfl ?_
    refine x_goto 24 C dX7_valueOf_5 rfl ?_
    exact J24 _ (by first | (rw [if_pos (by omega)] at hfr1; omega) | (rw [if_neg (by omega), if_pos (by omega)] at hfr1; omega) | (rw [if_neg (by omega), if_neg (by omega)] at hfr1; omega))
  refine x_iload_n 9 C dX7_valueOf_8 rfl rfl rfl ?_
  refine x_iconst 10 C dX7_valueOf_9 rfl ?_
  refine x_icmp_ne 20 13 C dX7_valueOf_10 rfl rfl (by omega) (by omega) (fun h10 => ?_) (fun h10 => ?_)
  · refine x_aload_n 21 C dX7_valueOf_20 rfl rfl rfl ?_
    refine x_geti (j := 2) 24 C (sh_text t) (by unfold NN; omega) rfl rfl (by decide) inT7 tb_2_89 rfl dX7_valueOf_21 rfl (fun r21 => ?_)
    exact J24 _ (by first | (rw [if_pos (by omega)] at hfr1; omega) | (rw [if_neg (by omega), if_pos (by omega)] at hfr1; omega) | (rw [if_neg (by omega), if_neg (by omega)] at hfr1; omega))
  refine x_aload_n 14 C dX7_valueOf_13 rfl rfl rfl ?_
  refine x_geti (j := 1) 17 C (sh_text t) (by unfold NN; omega) rfl rfl (by decide) inT7 tb_2_88 rfl dX7_valueOf_14 rfl (fun r14 => ?_)
  refine x_goto 24 C dX7_valueOf_17 rfl ?_
  exact J24 _ (by first | (rw [if_pos (by omega)] at hfr1; omega) | (rw [if_neg (by omega), if_pos (by omega)] at hfr1; omega) | (rw [if_neg (by omega), if_neg (by omega)] at hfr1; omega))
