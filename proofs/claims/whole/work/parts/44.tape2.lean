def valC (T : Nat → Nat) (b : Nat) : Nat → Nat
  | 0 => 0
  | k + 1 => if 1000 < 10 * valC T b k + T (b + k) - 48 then 1000 else 10 * valC T b k + T (b + k) - 48
theorem valC_le (T : Nat → Nat) (b k : Nat) : valC T b k ≤ 1000 := by
  cases k with
  | zero => exact Nat.zero_le _
  | succ k => unfold valC; split <;> omega
theorem valC_P {T : Nat → Nat} {b : Nat} (k : Nat) (h : ∀ j, j < k → 48 ≤ T (b + j) ∧ T (b + j) ≤ 57) : (valC T b k = valP T b k ∧ valP T b k ≤ 999) ∨ (valC T b k = 1000 ∧ 999 < valP T b k) := by
  induction k with
  | zero => exact Or.inl ⟨rfl, Nat.zero_le _⟩
  | succ k ih =>
    have ih := ih (fun j hj => h j (by omega))
    have hk := h k (by omega)
    unfold valC valP
    rcases ih with ⟨e1, e2⟩ | ⟨e1, e2⟩
    · rw [e1, if_neg (show ¬ 999 < valP T b k by omega)]
      split <;> omega
    · rw [e1, if_pos e2, if_pos (by omega)]
      omega
theorem run_all {c : Nat → Bool} {T : Nat → Nat} {l : Nat} (n : Nat) : ∀ p, l - p = n → ∀ j, p ≤ j → j < run c T l p → c (T j) = true := by
  induction n with
  | zero => intro p hp j h1 h2; rw [run_no (by omega)] at h2; omega
  | succ n ih =>
    intro p hp j h1 h2
    by_cases q : c (T p) = true
    · by_cases e : j = p
      · rw [e]; exact q
      · rw [run_st (by omega) q] at h2
        exact ih (p + 1) (by omega) j (by omega) h2
    · rw [run_no (fun z => q z.2)] at h2
      omega
set_option maxHeartbeats 4000000 in
set_option maxRecDepth 100000 in
theorem t_X3_number {G : gG} {M : gM} {T : Nat → Nat} {l : Nat} (h : ctP M T l) {b e : Nat} (hb : M.1 8 0 3 = nI b) (he : M.1 8 0 4 = nI e) (hbe : b ≤ e) (hel : e ≤ l) (hd : ∀ j, j < e - b → 48 ≤ T (b + j) ∧ T (b + j) ≤ 57) : Cf G mX3_number 1 [.ref (ad G 8 0)] M (some (.int (nI (valC T b (e - b))))) M := by
  obtain ⟨hl, ht, hl2, hT⟩ := id h
  refine Ct.of (by decide +kernel) (k := 2) (ls0 := [some (.ref (ad G 8 0)), none, none]) rfl rfl (fun _ _ => trivial) ?_
  intro P hR
  have L : ∀ (j i : Nat), i + j = e - b → P 7 [some (.ref (ad G 8 0)), some (.int (nI (valC T b i))), some (.int (nI (b + i)))] [] M := by
    intro j
    induction j with
    | zero =>
      intro i  hij 
      have hvl := valC_le T b i
      refine r_iload2 hR dX3_number_7 ?_
      refine r_aload0 hR dX3_number_8 ?_
      refine r_get hR (by first | decide | assumption | (simp only [gcnt_4, gcnt_1, gcnt_2, gcnt_3, gcnt_12, gcnt_13, gcnt_16]; omega)) fl_X3_19 rfl rfl dX3_number_9 ?_
      rw [he]
      refine r_icmp_ge hR 42 dX3_number_12 (by decide) (fun c12 => ?_) (fun c12 => ?_)
      · try simp (disch := omega) only [nI_ltI, nI_leI, nI_eq, bI_0, Decidable.not_not, lc_lt, lc_gt, lc_ge, lc_le, lc_eq, i64_toInt] at c12
        try simp (disch := omega) only [cv_lt, cv_le, cv_eq, nI_toInt, cv_0] at c12
        first
        | omega
        | refine r_iload1 hR dX3_number_42 ?_
          refine r_iret hR dX3_number_43 ?_
          first
          | omega
          | (obtain rfl : e = b + i := by omega
             exact ⟨by rw [Nat.add_sub_cancel_left], rfl⟩)
      · try simp (disch := omega) only [nI_ltI, nI_leI, nI_eq, bI_0, Decidable.not_not, lc_lt, lc_gt, lc_ge, lc_le, lc_eq, i64_toInt] at c12
        try simp (disch := omega) only [cv_lt, cv_le, cv_eq, nI_toInt, cv_0] at c12
        first
        | omega
        | refine r_sipush hR (nI 1000) (by decide) dX3_number_15 ?_
          refine r_iload1 hR dX3_number_18 ?_
          refine r_bipush hR (nI 10) (by decide) dX3_number_19 ?_
          refine r_imul hR dX3_number_21 ?_
          try rw [pk_mul]
          refine r_aload0 hR dX3_number_22 ?_
          refine r_get hR (by first | decide | assumption | (simp only [gcnt_4, gcnt_1, gcnt_2, gcnt_3, gcnt_12, gcnt_13, gcnt_16]; omega)) fl_X3_9 rfl rfl dX3_number_23 ?_
          refine r_iload2 hR dX3_number_26 ?_
          refine r_iald hR (by first | decide | assumption | (simp only [gcnt_4, gcnt_1, gcnt_2, gcnt_3, gcnt_12, gcnt_13, gcnt_16]; omega)) rfl rfl (by omega) (by decide) dX3_number_27 ?_
          rw [ht (b + i) (by omega)]
          have hTi := hT (b + i)
          have hdi := hd i (by omega)
          refine r_iadd hR dX3_number_28 ?_
          try rw [nI_add]
          refine r_bipush hR (nI 48) (by decide) dX3_number_29 ?_
          rw [Nat.mul_comm (valC T b i) 10]
          refine r_isubN hR (by omega) dX3_number_31 ?_
          refine r_min hR kmin_X3_44 (by decide) (Nat.le_of_ble_eq_true rfl) dX3_number_32 ?_
          refine r_nm (nI (valC T b (i + 1))) ?_ ?_
          · rw [mn (by omega) (by omega)]
            refine congrArg nI ?_
            rfl
          refine r_istore1 hR (fun _ h => by first | (cases h; rfl) | exact absurd h (by simp)) dX3_number_35 ?_
          refine r_iinc2 hR (nI 1) (by decide) (fun _ h => by first | (cases h; rfl) | exact absurd h (by simp)) dX3_number_36 ?_
          try rw [nI_add]
          refine r_goto hR 7 dX3_number_39 (by decide) ?_
          omega
    | succ j ih =>
      intro i  hij 
      have hvl := valC_le T b i
      refine r_iload2 hR dX3_number_7 ?_
      refine r_aload0 hR dX3_number_8 ?_
      refine r_get hR (by first | decide | assumption | (simp only [gcnt_4, gcnt_1, gcnt_2, gcnt_3, gcnt_12, gcnt_13, gcnt_16]; omega)) fl_X3_19 rfl rfl dX3_number_9 ?_
      rw [he]
      refine r_icmp_ge hR 42 dX3_number_12 (by decide) (fun c12 => ?_) (fun c12 => ?_)
      · try simp (disch := omega) only [nI_ltI, nI_leI, nI_eq, bI_0, Decidable.not_not, lc_lt, lc_gt, lc_ge, lc_le, lc_eq, i64_toInt] at c12
        try simp (disch := omega) only [cv_lt, cv_le, cv_eq, nI_toInt, cv_0] at c12
        first
        | omega
        | refine r_iload1 hR dX3_number_42 ?_
          refine r_iret hR dX3_number_43 ?_
          first
          | omega
          | (obtain rfl : e = b + i := by omega
             exact ⟨by rw [Nat.add_sub_cancel_left], rfl⟩)
      · try simp (disch := omega) only [nI_ltI, nI_leI, nI_eq, bI_0, Decidable.not_not, lc_lt, lc_gt, lc_ge, lc_le, lc_eq, i64_toInt] at c12
        try simp (disch := omega) only [cv_lt, cv_le, cv_eq, nI_toInt, cv_0] at c12
        first
        | omega
        | refine r_sipush hR (nI 1000) (by decide) dX3_number_15 ?_
          refine r_iload1 hR dX3_number_18 ?_
          refine r_bipush hR (nI 10) (by decide) dX3_number_19 ?_
          refine r_imul hR dX3_number_21 ?_
          try rw [pk_mul]
          refine r_aload0 hR dX3_number_22 ?_
          refine r_get hR (by first | decide | assumption | (simp only [gcnt_4, gcnt_1, gcnt_2, gcnt_3, gcnt_12, gcnt_13, gcnt_16]; omega)) fl_X3_9 rfl rfl dX3_number_23 ?_
          refine r_iload2 hR dX3_number_26 ?_
          refine r_iald hR (by first | decide | assumption | (simp only [gcnt_4, gcnt_1, gcnt_2, gcnt_3, gcnt_12, gcnt_13, gcnt_16]; omega)) rfl rfl (by omega) (by decide) dX3_number_27 ?_
          rw [ht (b + i) (by omega)]
          have hTi := hT (b + i)
          have hdi := hd i (by omega)
          refine r_iadd hR dX3_number_28 ?_
          try rw [nI_add]
          refine r_bipush hR (nI 48) (by decide) dX3_number_29 ?_
          rw [Nat.mul_comm (valC T b i) 10]
          refine r_isubN hR (by omega) dX3_number_31 ?_
          refine r_min hR kmin_X3_44 (by decide) (Nat.le_of_ble_eq_true rfl) dX3_number_32 ?_
          refine r_nm (nI (valC T b (i + 1))) ?_ ?_
          · rw [mn (by omega) (by omega)]
            refine congrArg nI ?_
            rfl
          refine r_istore1 hR (fun _ h => by first | (cases h; rfl) | exact absurd h (by simp)) dX3_number_35 ?_
          refine r_iinc2 hR (nI 1) (by decide) (fun _ h => by first | (cases h; rfl) | exact absurd h (by simp)) dX3_number_36 ?_
          try rw [nI_add]
          refine r_goto hR 7 dX3_number_39 (by decide) ?_
          exact ih (i + 1) (by omega)
  refine r_iconst hR (nI 0) (by decide) dX3_number_0 ?_
  refine r_istore1 hR (fun _ h => by first | (cases h; rfl) | exact absurd h (by simp)) dX3_number_1 ?_
  refine r_aload0 hR dX3_number_2 ?_
  refine r_get hR (by first | decide | assumption | (simp only [gcnt_4, gcnt_1, gcnt_2, gcnt_3, gcnt_12, gcnt_13, gcnt_16]; omega)) fl_X3_25 rfl rfl dX3_number_3 ?_
  rw [hb]
  refine r_istore2 hR (fun _ h => by first | (cases h; rfl) | exact absurd h (by simp)) dX3_number_6 ?_
  exact L (e - b) 0 (by omega)

