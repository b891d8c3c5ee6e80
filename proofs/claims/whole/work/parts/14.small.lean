set_option maxHeartbeats 4000000 in
set_option maxRecDepth 100000 in
theorem t_X7_isUnder {G : gG} {M : gM} {k a : Nat} (hk : k < 6) (ha : a < 6) : Cf G mX7_isUnder 1 [.int (nI k), .int (nI a)] M (some (.int (bI (a = 0 ∨ a = k ∨ (a = 1 ∧ k = 4) ∨ (a = 2 ∧ k = 5))))) M := by
  refine Ct.of (by decide +kernel) (k := 0) (ls0 := [some (.int (nI k)), some (.int (nI a))]) rfl rfl (fun _ _ => trivial) ?_
  intro P hR
  refine r_iload0 hR dX7_isUnder_0 ?_
  refine r_iload1 hR dX7_isUnder_1 ?_
  refine r_icmp_eq hR 24 dX7_isUnder_2 (by decide) (fun c2 => ?_) (fun c2 => ?_)
  · try simp (disch := omega) only [nI_ltI, nI_leI, nI_eq, bI_0, Decidable.not_not, lc_lt, lc_gt, lc_ge, lc_le, lc_eq, i64_toInt] at c2
    try simp (disch := omega) only [cv_lt, cv_le, cv_eq, nI_toInt, cv_0] at c2
    first
    | omega
    | refine r_iconst hR (nI 1) (by decide) dX7_isUnder_24 ?_
      refine r_goto hR 29 dX7_isUnder_25 (by decide) ?_
      refine r_zret hR dX7_isUnder_29 rfl ?_
      refine ⟨?_, rfl⟩
      clear hR
      have hk6 : k = 0 ∨ k = 1 ∨ k = 2 ∨ k = 3 ∨ k = 4 ∨ k = 5 := by omega
      rcases hk6 with rfl | rfl | rfl | rfl | rfl | rfl <;> simp at * <;> first | (rw [bI_t]; omega) | (rw [bI_f]; omega)
  · try simp (disch := omega) only [nI_ltI, nI_leI, nI_eq, bI_0, Decidable.not_not, lc_lt, lc_gt, lc_ge, lc_le, lc_eq, i64_toInt] at c2
    try simp (disch := omega) only [cv_lt, cv_le, cv_eq, nI_toInt, cv_0] at c2
    first
    | omega
    | refine r_iload0 hR dX7_isUnder_5 ?_
      refine r_cs1v hR ks_X7_276 (by decide) (t_X7_kindAbove (by first | omega | (split <;> (try split) <;> omega))) (Nat.le_of_ble_eq_true rfl) dX7_isUnder_6 ?_
      refine r_iload1 hR dX7_isUnder_9 ?_
      have hz : (if k = 4 then 1 else if k = 5 then 2 else 0) < 6 := by split <;> (try split) <;> omega
      refine r_icmp_eq hR 24 dX7_isUnder_10 (by decide) (fun c10 => ?_) (fun c10 => ?_)
      · try simp (disch := omega) only [nI_ltI, nI_leI, nI_eq, bI_0, Decidable.not_not, lc_lt, lc_gt, lc_ge, lc_le, lc_eq, i64_toInt] at c10
        try simp (disch := omega) only [cv_lt, cv_le, cv_eq, nI_toInt, cv_0] at c10
        first
        | omega
        | refine r_iconst hR (nI 1) (by decide) dX7_isUnder_24 ?_
          refine r_goto hR 29 dX7_isUnder_25 (by decide) ?_
          refine r_zret hR dX7_isUnder_29 rfl ?_
          refine ⟨?_, rfl⟩
          clear hR
          have hk6 : k = 0 ∨ k = 1 ∨ k = 2 ∨ k = 3 ∨ k = 4 ∨ k = 5 := by omega
          rcases hk6 with rfl | rfl | rfl | rfl | rfl | rfl <;> simp at * <;> first | (rw [bI_t]; omega) | (rw [bI_f]; omega)
      · try simp (disch := omega) only [nI_ltI, nI_leI, nI_eq, bI_0, Decidable.not_not, lc_lt, lc_gt, lc_ge, lc_le, lc_eq, i64_toInt] at c10
        try simp (disch := omega) only [cv_lt, cv_le, cv_eq, nI_toInt, cv_0] at c10
        first
        | omega
        | refine r_iload0 hR dX7_isUnder_13 ?_
          refine r_cs1v hR ks_X7_276 (by decide) (t_X7_kindAbove (by first | omega | (split <;> (try split) <;> omega))) (Nat.le_of_ble_eq_true rfl) dX7_isUnder_14 ?_
          refine r_cs1v hR ks_X7_276 (by decide) (t_X7_kindAbove (by first | omega | (split <;> (try split) <;> omega))) (Nat.le_of_ble_eq_true rfl) dX7_isUnder_17 ?_
          refine r_iload1 hR dX7_isUnder_20 ?_
          have hz2 : (if (if k = 4 then 1 else if k = 5 then 2 else 0) = 4 then 1 else if (if k = 4 then 1 else if k = 5 then 2 else 0) = 5 then 2 else 0) < 6 := by (repeat' split) <;> omega
          refine r_icmp_ne hR 28 dX7_isUnder_21 (by decide) (fun c21 => ?_) (fun c21 => ?_)
          · try simp (disch := omega) only [nI_ltI, nI_leI, nI_eq, bI_0, Decidable.not_not, lc_lt, lc_gt, lc_ge, lc_le, lc_eq, i64_toInt] at c21
            try simp (disch := omega) only [cv_lt, cv_le, cv_eq, nI_toInt, cv_0] at c21
            first
            | omega
            | refine r_iconst hR (nI 0) (by decide) dX7_isUnder_28 ?_
              refine r_zret hR dX7_isUnder_29 rfl ?_
              refine ⟨?_, rfl⟩
              clear hR
              have hk6 : k = 0 ∨ k = 1 ∨ k = 2 ∨ k = 3 ∨ k = 4 ∨ k = 5 := by omega
              rcases hk6 with rfl | rfl | rfl | rfl | rfl | rfl <;> simp at * <;> first | (rw [bI_t]; omega) | (rw [bI_f]; omega)
          · try simp (disch := omega) only [nI_ltI, nI_leI, nI_eq, bI_0, Decidable.not_not, lc_lt, lc_gt, lc_ge, lc_le, lc_eq, i64_toInt] at c21
            try simp (disch := omega) only [cv_lt, cv_le, cv_eq, nI_toInt, cv_0] at c21
            first
            | omega
            | refine r_iconst hR (nI 1) (by decide) dX7_isUnder_24 ?_
              refine r_goto hR 29 dX7_isUnder_25 (by decide) ?_
              refine r_zret hR dX7_isUnder_29 rfl ?_
              refine ⟨?_, rfl⟩
              clear hR
              have hk6 : k = 0 ∨ k = 1 ∨ k = 2 ∨ k = 3 ∨ k = 4 ∨ k = 5 := by omega
              rcases hk6 with rfl | rfl | rfl | rfl | rfl | rfl <;> simp at * <;> first | (rw [bI_t]; omega) | (rw [bI_f]; omega)

set_option maxHeartbeats 4000000 in
set_option maxRecDepth 100000 in
theorem t_X7_finding {G : gG} {M : gM} {n : Nat} (hn : n < 7) : Cf G mX7_finding 1 [.ref (ad G 0 0), .int (-1000000001 - nI n)] M (some (.int (-1000000001 - nI n))) (seti M 14 0 n (M.1 14 0 n + nI 1)) := by
  refine Ct.of (by decide +kernel) (k := 1) (ls0 := [some (.ref (ad G 0 0)), some (.int (-1000000001 - nI n)), none]) rfl rfl (fun _ _ => trivial) ?_
  intro P hR
  refine r_ldc hR ct_X7_81 dX7_finding_0 ?_
  refine r_iload1 hR dX7_finding_2 ?_
  refine r_isub hR dX7_finding_3 ?_
  refine r_nm (nI n) (fnd_t n hn) ?_
  refine r_istore2 hR (fun _ h => by first | (cases h; rfl) | exact absurd h (by simp)) dX7_finding_4 ?_
  refine r_iload2 hR dX7_finding_5 ?_
  refine r_bipush hR (nI 6) (by decide) dX7_finding_6 ?_
  refine r_cs2v hR ks_X7_77 (by decide) (t_X7_within) (Nat.le_of_ble_eq_true rfl) dX7_finding_8 ?_
  refine r_if_eq hR 24 dX7_finding_11 (by decide) (fun c11 => ?_) (fun c11 => ?_)
  · try simp (disch := omega) only [nI_ltI, nI_leI, nI_eq, bI_0, Decidable.not_not, lc_lt, lc_gt, lc_ge, lc_le, lc_eq, i64_toInt] at c11
    try simp (disch := omega) only [cv_lt, cv_le, cv_eq, nI_toInt, cv_0] at c11
    first
    | omega
    | refine r_iload1 hR dX7_finding_24 ?_
      refine r_iret hR dX7_finding_25 ?_
      exact ⟨rfl, rfl⟩
  · try simp (disch := omega) only [nI_ltI, nI_leI, nI_eq, bI_0, Decidable.not_not, lc_lt, lc_gt, lc_ge, lc_le, lc_eq, i64_toInt] at c11
    try simp (disch := omega) only [cv_lt, cv_le, cv_eq, nI_toInt, cv_0] at c11
    first
    | omega
    | refine r_aload0 hR dX7_finding_14 ?_
      refine r_get hR (by first | decide | assumption | (simp only [gcnt_4, gcnt_1, gcnt_2, gcnt_3, gcnt_12, gcnt_13, gcnt_16]; omega)) fl_X7_73 rfl rfl dX7_finding_15 ?_
      refine r_iload2 hR dX7_finding_18 ?_
      refine r_dup2 hR rfl rfl dX7_finding_19 ?_
      refine r_iald hR (by first | decide | assumption | (simp only [gcnt_4, gcnt_1, gcnt_2, gcnt_3, gcnt_12, gcnt_13, gcnt_16]; omega)) rfl rfl (by omega) (by decide) dX7_finding_20 ?_
      refine r_iconst hR (nI 1) (by decide) dX7_finding_21 ?_
      refine r_iadd hR dX7_finding_22 ?_
      try rw [nI_add]
      refine r_iast hR (by first | decide | assumption | (simp only [gcnt_4, gcnt_1, gcnt_2, gcnt_3, gcnt_12, gcnt_13, gcnt_16]; omega)) (fun _ => rfl) rfl (by omega) (by decide) dX7_finding_23 ?_
      refine r_iload1 hR dX7_finding_24 ?_
      refine r_iret hR dX7_finding_25 ?_
      exact ⟨rfl, rfl⟩

set_option maxHeartbeats 4000000 in
set_option maxRecDepth 100000 in
theorem t_X0_begin {G : gG} {M : gM} {x : Int32} : Cf G mX0_begin 0 [.ref (ad G 7 0), .int x] M none (seti (seti M 7 0 0 (-1)) 7 0 1 x) := by
  refine Ct.of (by decide +kernel) (k := 0) (ls0 := [some (.ref (ad G 7 0)), some (.int x)]) rfl rfl (fun _ _ => trivial) ?_
  intro P hR
  refine r_aload0 hR dX0_begin_0 ?_
  refine r_iconst hR (-1) (by decide) dX0_begin_1 ?_
  refine r_puti hR (by first | decide | assumption | (simp only [gcnt_4, gcnt_1, gcnt_2, gcnt_3, gcnt_12, gcnt_13, gcnt_16]; omega)) fp_X0_9 rfl rfl (Nat.le_of_ble_eq_true rfl) rfl rfl dX0_begin_2 ?_
  refine r_aload0 hR dX0_begin_5 ?_
  refine r_iload1 hR dX0_begin_6 ?_
  refine r_puti hR (by first | decide | assumption | (simp only [gcnt_4, gcnt_1, gcnt_2, gcnt_3, gcnt_12, gcnt_13, gcnt_16]; omega)) fp_X0_13 rfl rfl (Nat.le_of_ble_eq_true rfl) rfl rfl dX0_begin_7 ?_
  refine r_vret hR dX0_begin_10 ?_
  exact ⟨rfl, rfl⟩

set_option maxHeartbeats 4000000 in
set_option maxRecDepth 100000 in
theorem t_X0_weigh {G : gG} {M : gM} {v x m : Int32} (hm : M.1 7 0 1 = m) : Cf G mX0_weigh 0 [.ref (ad G 7 0), .int v, .int x] M none (if m.toInt < x.toInt then seti (seti M 7 0 0 v) 7 0 1 x else M) := by
  refine Ct.of (by decide +kernel) (k := 0) (ls0 := [some (.ref (ad G 7 0)), some (.int v), some (.int x)]) rfl rfl (fun _ _ => trivial) ?_
  intro P hR
  refine r_iload2 hR dX0_weigh_0 ?_
  refine r_aload0 hR dX0_weigh_1 ?_
  refine r_get hR (by first | decide | assumption | (simp only [gcnt_4, gcnt_1, gcnt_2, gcnt_3, gcnt_12, gcnt_13, gcnt_16]; omega)) fl_X0_13 rfl rfl dX0_weigh_2 ?_
  try simp only [hm]
  refine r_icmp_le hR 18 dX0_weigh_5 (by decide) (fun c5 => ?_) (fun c5 => ?_)
  · try simp (disch := omega) only [nI_ltI, nI_leI, nI_eq, bI_0, Decidable.not_not, lc_lt, lc_gt, lc_ge, lc_le, lc_eq, i64_toInt] at c5
    try simp (disch := omega) only [cv_lt, cv_le, cv_eq, nI_toInt, cv_0] at c5
    first
    | omega
    | refine r_vret hR dX0_weigh_18 ?_
      first
      | (rw [if_pos (by omega)]; exact ⟨rfl, rfl⟩)
      | (rw [if_neg (by omega)]; exact ⟨rfl, rfl⟩)
  · try simp (disch := omega) only [nI_ltI, nI_leI, nI_eq, bI_0, Decidable.not_not, lc_lt, lc_gt, lc_ge, lc_le, lc_eq, i64_toInt] at c5
    try simp (disch := omega) only [cv_lt, cv_le, cv_eq, nI_toInt, cv_0] at c5
    first
    | omega
    | refine r_aload0 hR dX0_weigh_8 ?_
      refine r_iload1 hR dX0_weigh_9 ?_
      refine r_puti hR (by first | decide | assumption | (simp only [gcnt_4, gcnt_1, gcnt_2, gcnt_3, gcnt_12, gcnt_13, gcnt_16]; omega)) fp_X0_9 rfl rfl (Nat.le_of_ble_eq_true rfl) rfl rfl dX0_weigh_10 ?_
      refine r_aload0 hR dX0_weigh_13 ?_
      refine r_iload2 hR dX0_weigh_14 ?_
      refine r_puti hR (by first | decide | assumption | (simp only [gcnt_4, gcnt_1, gcnt_2, gcnt_3, gcnt_12, gcnt_13, gcnt_16]; omega)) fp_X0_13 rfl rfl (Nat.le_of_ble_eq_true rfl) rfl rfl dX0_weigh_15 ?_
      refine r_vret hR dX0_weigh_18 ?_
      first
      | (rw [if_pos (by omega)]; exact ⟨rfl, rfl⟩)
      | (rw [if_neg (by omega)]; exact ⟨rfl, rfl⟩)

set_option maxHeartbeats 4000000 in
set_option maxRecDepth 100000 in
theorem t_X6_begin {G : gG} {M : gM} {c : Nat} (hc : c < 36) : Cf G mX6_begin 0 [.ref (ad G 5 0), .int (nI c)] M none (putR M 6 0 (begC 1000 c) 36) := by
  refine Ct.of (by decide +kernel) (k := 1) (ls0 := [some (.ref (ad G 5 0)), some (.int (nI c)), none]) rfl rfl (fun _ _ => trivial) ?_
  intro P hR
  have L : ∀ (j i : Nat), i + j = 36 → P 2 [some (.ref (ad G 5 0)), some (.int (nI c)), some (.int (nI i))] [] (putR M 6 0 (begC 1000 c) i) := by
    intro j
    induction j with
    | zero =>
      intro i hij
      refine r_iload2 hR dX6_begin_2 ?_
      refine r_bipush hR (nI 36) (by decide) dX6_begin_3 ?_
      refine r_icmp_ge hR 32 dX6_begin_5 (by decide) (fun c5 => ?_) (fun c5 => ?_)
      · try simp (disch := omega) only [nI_ltI, nI_leI, nI_eq, bI_0, Decidable.not_not, lc_lt, lc_gt, lc_ge, lc_le, lc_eq, i64_toInt] at c5
        try simp (disch := omega) only [cv_lt, cv_le, cv_eq, nI_toInt, cv_0] at c5
        first
        | omega
        | refine r_vret hR dX6_begin_32 ?_
          obtain rfl : i = 36 := by omega
          exact ⟨rfl, rfl⟩
      · try simp (disch := omega) only [nI_ltI, nI_leI, nI_eq, bI_0, Decidable.not_not, lc_lt, lc_gt, lc_ge, lc_le, lc_eq, i64_toInt] at c5
        try simp (disch := omega) only [cv_lt, cv_le, cv_eq, nI_toInt, cv_0] at c5
        first
        | omega
        | refine r_aload0 hR dX6_begin_8 ?_
          refine r_get hR (by first | decide | assumption | (simp only [gcnt_4, gcnt_1, gcnt_2, gcnt_3, gcnt_12, gcnt_13, gcnt_16]; omega)) fl_X6_9 rfl rfl dX6_begin_9 ?_
          refine r_iload2 hR dX6_begin_12 ?_
          refine r_iload2 hR dX6_begin_13 ?_
          refine r_iload1 hR dX6_begin_14 ?_
          refine r_icmp_ne hR 22 dX6_begin_15 (by decide) (fun c15 => ?_) (fun c15 => ?_)
          · try simp (disch := omega) only [nI_ltI, nI_leI, nI_eq, bI_0, Decidable.not_not, lc_lt, lc_gt, lc_ge, lc_le, lc_eq, i64_toInt] at c15
            try simp (disch := omega) only [cv_lt, cv_le, cv_eq, nI_toInt, cv_0] at c15
            first
            | omega
            | refine r_sipush hR (nI 1000) (by decide) dX6_begin_22 ?_
              omega
          · try simp (disch := omega) only [nI_ltI, nI_leI, nI_eq, bI_0, Decidable.not_not, lc_lt, lc_gt, lc_ge, lc_le, lc_eq, i64_toInt] at c15
            try simp (disch := omega) only [cv_lt, cv_le, cv_eq, nI_toInt, cv_0] at c15
            first
            | omega
            | refine r_iconst hR (nI 0) (by decide) dX6_begin_18 ?_
              refine r_goto hR 25 dX6_begin_19 (by decide) ?_
              omega
    | succ j ih =>
      intro i hij
      have J25 : P 25 [some (.ref (ad G 5 0)), some (.int (nI c)), some (.int (nI i))] [.int (nI (begC 1000 c i)), .int (nI i), .ref (ad G 6 0)] (putR M 6 0 (begC 1000 c) i) := by
        refine r_iast hR (by first | decide | assumption | (simp only [gcnt_4, gcnt_1, gcnt_2, gcnt_3, gcnt_12, gcnt_13, gcnt_16]; omega)) (fun _ => rfl) rfl (by omega) (by decide) dX6_begin_25 ?_
        refine r_iinc2 hR (nI 1) (by decide) (fun _ h => by first | (cases h; rfl) | exact absurd h (by simp)) dX6_begin_26 ?_
        try rw [nI_add]
        refine r_goto hR 2 dX6_begin_29 (by decide) ?_
        rw [putR_grow]
        exact ih (i + 1) (by omega)
      refine r_iload2 hR dX6_begin_2 ?_
      refine r_bipush hR (nI 36) (by decide) dX6_begin_3 ?_
      refine r_icmp_ge hR 32 dX6_begin_5 (by decide) (fun c5 => ?_) (fun c5 => ?_)
      · try simp (disch := omega) only [nI_ltI, nI_leI, nI_eq, bI_0, Decidable.not_not, lc_lt, lc_gt, lc_ge, lc_le, lc_eq, i64_toInt] at c5
        try simp (disch := omega) only [cv_lt, cv_le, cv_eq, nI_toInt, cv_0] at c5
        first
        | omega
        | refine r_vret hR dX6_begin_32 ?_
          omega
      · try simp (disch := omega) only [nI_ltI, nI_leI, nI_eq, bI_0, Decidable.not_not, lc_lt, lc_gt, lc_ge, lc_le, lc_eq, i64_toInt] at c5
        try simp (disch := omega) only [cv_lt, cv_le, cv_eq, nI_toInt, cv_0] at c5
        first
        | omega
        | refine r_aload0 hR dX6_begin_8 ?_
          refine r_get hR (by first | decide | assumption | (simp only [gcnt_4, gcnt_1, gcnt_2, gcnt_3, gcnt_12, gcnt_13, gcnt_16]; omega)) fl_X6_9 rfl rfl dX6_begin_9 ?_
          refine r_iload2 hR dX6_begin_12 ?_
          refine r_iload2 hR dX6_begin_13 ?_
          refine r_iload1 hR dX6_begin_14 ?_
          refine r_icmp_ne hR 22 dX6_begin_15 (by decide) (fun c15 => ?_) (fun c15 => ?_)
          · try simp (disch := omega) only [nI_ltI, nI_leI, nI_eq, bI_0, Decidable.not_not, lc_lt, lc_gt, lc_ge, lc_le, lc_eq, i64_toInt] at c15
            try simp (disch := omega) only [cv_lt, cv_le, cv_eq, nI_toInt, cv_0] at c15
            first
            | omega
            | refine r_sipush hR (nI 1000) (by decide) dX6_begin_22 ?_
              refine r_nm (nI (begC 1000 c i)) (by unfold begC; split <;> first | rfl | omega) ?_
              exact J25
          · try simp (disch := omega) only [nI_ltI, nI_leI, nI_eq, bI_0, Decidable.not_not, lc_lt, lc_gt, lc_ge, lc_le, lc_eq, i64_toInt] at c15
            try simp (disch := omega) only [cv_lt, cv_le, cv_eq, nI_toInt, cv_0] at c15
            first
            | omega
            | refine r_iconst hR (nI 0) (by decide) dX6_begin_18 ?_
              refine r_goto hR 25 dX6_begin_19 (by decide) ?_
              refine r_nm (nI (begC 1000 c i)) (by unfold begC; split <;> first | rfl | omega) ?_
              exact J25
  refine r_iconst hR (nI 0) (by decide) dX6_begin_0 ?_
  refine r_istore2 hR (fun _ h => by first | (cases h; rfl) | exact absurd h (by simp)) dX6_begin_1 ?_
  refine r_mem (putR_z M 6 0 (begC 1000 c)).symm ?_
  exact L 36 0 rfl

set_option maxHeartbeats 4000000 in
set_option maxRecDepth 100000 in
theorem t_X6_lower {G : gG} {M : gM} {N : Nat → Nat} {x v : Nat} (hN : ∀ j, j < 36 → M.1 6 1 j = nI (N j)) (hB : ∀ j, N j ≤ 2000) (hx : x < 36) (hv : v < 2000) : Cf G mX6_lower 1 [.ref (ad G 5 0), .int (nI x), .int (nI v)] M none (putR M 6 1 (low N x v) 36) := by
  refine Ct.of (by decide +kernel) (k := 0) (ls0 := [some (.ref (ad G 5 0)), some (.int (nI x)), some (.int (nI v))]) rfl rfl (fun _ _ => trivial) ?_
  intro P hR
  refine r_iload1 hR dX6_lower_0 ?_
  refine r_bipush hR (nI 35) (by decide) dX6_lower_1 ?_
  refine r_cn2v hR kn_X7_within (fun _ h => h.2.2.2.2.2.2.1) (by decide) (t_X7_within) (Nat.le_of_ble_eq_true rfl) dX6_lower_3 ?_
  refine r_if_eq hR 26 dX6_lower_6 (by decide) (fun c6 => ?_) (fun c6 => ?_)
  · try simp (disch := omega) only [nI_ltI, nI_leI, nI_eq, bI_0, Decidable.not_not, lc_lt, lc_gt, lc_ge, lc_le, lc_eq, i64_toInt] at c6
    try simp (disch := omega) only [cv_lt, cv_le, cv_eq, nI_toInt, cv_0] at c6
    first
    | omega
    | refine r_vret hR dX6_lower_26 ?_
      refine ⟨rfl, ?_⟩
      unfold low
      first
      | (rw [if_pos (by omega), ← putR_seti M 6 1 N hx, putR_id hN]; done)
      | (rw [if_neg (by omega), putR_id hN])
  · try simp (disch := omega) only [nI_ltI, nI_leI, nI_eq, bI_0, Decidable.not_not, lc_lt, lc_gt, lc_ge, lc_le, lc_eq, i64_toInt] at c6
    try simp (disch := omega) only [cv_lt, cv_le, cv_eq, nI_toInt, cv_0] at c6
    first
    | omega
    | refine r_iload2 hR dX6_lower_9 ?_
      refine r_aload0 hR dX6_lower_10 ?_
      refine r_get hR (by first | decide | assumption | (simp only [gcnt_4, gcnt_1, gcnt_2, gcnt_3, gcnt_12, gcnt_13, gcnt_16]; omega)) fl_X6_15 rfl rfl dX6_lower_11 ?_
      refine r_iload1 hR dX6_lower_14 ?_
      refine r_iald hR (by first | decide | assumption | (simp only [gcnt_4, gcnt_1, gcnt_2, gcnt_3, gcnt_12, gcnt_13, gcnt_16]; omega)) rfl rfl (by omega) (by decide) dX6_lower_15 ?_
      rw [hN x hx]
      have hBx := hB x
      refine r_icmp_ge hR 26 dX6_lower_16 (by decide) (fun c16 => ?_) (fun c16 => ?_)
      · try simp (disch := omega) only [nI_ltI, nI_leI, nI_eq, bI_0, Decidable.not_not, lc_lt, lc_gt, lc_ge, lc_le, lc_eq, i64_toInt] at c16
        try simp (disch := omega) only [cv_lt, cv_le, cv_eq, nI_toInt, cv_0] at c16
        first
        | omega
        | refine r_vret hR dX6_lower_26 ?_
          refine ⟨rfl, ?_⟩
          unfold low
          first
          | (rw [if_pos (by omega), ← putR_seti M 6 1 N hx, putR_id hN]; done)
          | (rw [if_neg (by omega), putR_id hN])
      · try simp (disch := omega) only [nI_ltI, nI_leI, nI_eq, bI_0, Decidable.not_not, lc_lt, lc_gt, lc_ge, lc_le, lc_eq, i64_toInt] at c16
        try simp (disch := omega) only [cv_lt, cv_le, cv_eq, nI_toInt, cv_0] at c16
        first
        | omega
        | refine r_aload0 hR dX6_lower_19 ?_
          refine r_get hR (by first | decide | assumption | (simp only [gcnt_4, gcnt_1, gcnt_2, gcnt_3, gcnt_12, gcnt_13, gcnt_16]; omega)) fl_X6_15 rfl rfl dX6_lower_20 ?_
          refine r_iload1 hR dX6_lower_23 ?_
          refine r_iload2 hR dX6_lower_24 ?_
          refine r_iast hR (by first | decide | assumption | (simp only [gcnt_4, gcnt_1, gcnt_2, gcnt_3, gcnt_12, gcnt_13, gcnt_16]; omega)) (fun _ => rfl) rfl (by omega) (by decide) dX6_lower_25 ?_
          refine r_vret hR dX6_lower_26 ?_
          refine ⟨rfl, ?_⟩
          unfold low
          first
          | (rw [if_pos (by omega), ← putR_seti M 6 1 N hx, putR_id hN]; done)
          | (rw [if_neg (by omega), putR_id hN])

