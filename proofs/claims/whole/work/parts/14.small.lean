set_option maxHeartbeats 4000000 in
set_option maxRecDepth 100000 in
theorem t_X7_isUnder {G : gG} {M : gM} {k a : Nat} (hk : k < 6) (ha : a < 6) : Cf G mX7_isUnder 1 [.int (nI k), .int (nI a)] M (some (.int (bI (a = 0 ∨ a = k ∨ (a = 1 ∧ k = 4) ∨ (a = 2 ∧ k = 5))))) M := by
  refine Ct.of (by decide +kernel) (k := 0) (ls0 := [some (.int (nI k)), some (.int (nI a))]) rfl rfl (fun _ _ => trivial) ?_
  intro P hR
  refine r_iload0 hR dX7_isUnder_0 ?_
  refine r_iload1 hR dX7_isUnder_1 ?_
  refine r_icmp_eq hR 24 dX7_isUnder_2 (by decide) (fun c2 => ?_) (fun c2 => ?_)
  · try simp (disch := omega) only [nI_ltI, nI_leI, nI_eq, bI_0, Decidable.not_not, lc_lt, lc_gt, lc_ge, lc_le, lc_eq, i64_toInt] at c2
    try simp (disch := omega) only [cv_lt, cv_le, cv_eq, nI_toInt, cv_0] at c2
    first
    | omega
    | refine r_iconst hR (nI 1) (by decide) dX7_isUnder_24 ?_
      refine r_goto hR 29 dX7_isUnder_25 (by decide) ?_
      refine r_zret hR dX7_isUnder_29 rfl ?_
      refine ⟨?_, rfl⟩
      clear hR
      have hk6 : k = 0 ∨ k = 1 ∨ k = 2 ∨ k = 3 ∨ k = 4 ∨ k = 5 := by omega
      rcases hk6 with rfl | rfl | rfl | rfl | rfl | rfl <;> simp at * <;> first | (rw [bI_t]; omega) | (rw [bI_f]; omega)
  · try simp (disch := omega) only [nI_ltI, nI_leI, nI_eq, bI_0, Decidable.not_not, lc_lt, lc_gt, lc_ge, lc_le, lc_eq, i64_toInt] at c2
    try simp (disch := omega) only [cv_lt, cv_le, cv_eq, nI_toInt, cv_0] at c2
    first
    | omega
    | refine r_iload0 hR dX7_isUnder_5 ?_
      refine r_cs1v hR ks_X7_276 (by decide) (t_X7_kindAbove (by first | omega | (split <;> (try split) <;> omega))) (Nat.le_of_ble_eq_true rfl) dX7_isUnder_6 ?_
      refine r_iload1 hR dX7_isUnder_9 ?_
      have hz : (if k = 4 then 1 else if k = 5 then 2 else 0) < 6 := by split <;> (try split) <;> omega
      refine r_icmp_eq hR 24 dX7_isUnder_10 (by decide) (fun c10 => ?_) (fun c10 => ?_)
      · try simp (disch := omega) only [nI_ltI, nI_leI, nI_eq, bI_0, Decidable.not_not, lc_lt, lc_gt, lc_ge, lc_le, lc_eq, i64_toInt] at c10
        try simp (disch := omega) only [cv_lt, cv_le, cv_eq, nI_toInt, cv_0] at c10
        first
        | omega
        | refine r_iconst hR (nI 1) (by decide) dX7_isUnder_24 ?_
          refine r_goto hR 29 dX7_isUnder_25 (by decide) ?_
          refine r_zret hR dX7_isUnder_29 rfl ?_
          refine ⟨?_, rfl⟩
          clear hR
          have hk6 : k = 0 ∨ k = 1 ∨ k = 2 ∨ k = 3 ∨ k = 4 ∨ k = 5 := by omega
          rcases hk6 with rfl | rfl | rfl | rfl | rfl | rfl <;> simp at * <;> first | (rw [bI_t]; omega) | (rw [bI_f]; omega)
      · try simp (disch := omega) only [nI_ltI, nI_leI, nI_eq, bI_0, Decidable.not_not, lc_lt, lc_gt, lc_ge, lc_le, lc_eq, i64_toInt] at c10
        try simp (disch := omega) only [cv_lt, cv_le, cv_eq, nI_toInt, cv_0] at c10
        first
        | omega
        | refine r_iload0 hR dX7_isUnder_13 ?_
          refine r_cs1v hR ks_X7_276 (by decide) (t_X7_kindAbove (by first | omega | (split <;> (try split) <;> omega))) (Nat.le_of_ble_eq_true rfl) dX7_isUnder_14 ?_
          refine r_cs1v hR ks_X7_276 (by decide) (t_X7_kindAbove (by first | omega | (split <;> (try split) <;> omega))) (Nat.le_of_ble_eq_true rfl) dX7_isUnder_17 ?_
          refine r_iload1 hR dX7_isUnder_20 ?_
          have hz2 : (if (if k = 4 then 1 else if k = 5 then 2 else 0) = 4 then 1 else if (if k = 4 then 1 else if k = 5 then 2 else 0) = 5 then 2 else 0) < 6 := by (repeat' split) <;> omega
          refine r_icmp_ne hR 28 dX7_isUnder_21 (by decide) (fun c21 => ?_) (fun c21 => ?_)
          · try simp (disch := omega) only [nI_ltI, nI_leI, nI_eq, bI_0, Decidable.not_not, lc_lt, lc_gt, lc_ge, lc_le, lc_eq, i64_toInt] at c21
            try simp (disch := omega) only [cv_lt, cv_le, cv_eq, nI_toInt, cv_0] at c21
            first
            | omega
            | refine r_iconst hR (nI 0) (by decide) dX7_isUnder_28 ?_
              refine r_zret hR dX7_isUnder_29 rfl ?_
              refine ⟨?_, rfl⟩
              clear hR
              have hk6 : k = 0 ∨ k = 1 ∨ k = 2 ∨ k = 3 ∨ k = 4 ∨ k = 5 := by omega
              rcases hk6 with rfl | rfl | rfl | rfl | rfl | rfl <;> simp at * <;> first | (rw [bI_t]; omega) | (rw [bI_f]; omega)
          · try simp (disch := omega) only [nI_ltI, nI_leI, nI_eq, bI_0, Decidable.not_not, lc_lt, lc_gt, lc_ge, lc_le, lc_eq, i64_toInt] at c21
            try simp (disch := omega) only [cv_lt, cv_le, cv_eq, nI_toInt, cv_0] at c21
            first
            | omega
            | refine r_iconst hR (nI 1) (by decide) dX7_isUnder_24 ?_
              refine r_goto hR 29 dX7_isUnder_25 (by decide) ?_
              refine r_zret hR dX7_isUnder_29 rfl ?_
              refine ⟨?_, rfl⟩
              clear hR
              have hk6 : k = 0 ∨ k = 1 ∨ k = 2 ∨ k = 3 ∨ k = 4 ∨ k = 5 := by omega
              rcases hk6 with rfl | rfl | rfl | rfl | rfl | rfl <;> simp at * <;> first | (rw [bI_t]; omega) | (rw [bI_f]; omega)

set_option maxHeartbeats 4000000 in
set_option maxRecDepth 100000 in
theorem t_X7_finding {G : gG} {M : gM} {n : Nat} (hn : n < 7) : Cf G mX7_finding 1 [.ref (ad G 0 0), .int (-1000000001 - nI n)] M (some (.int (-1000000001 - nI n))) (seti M 14 0 n (M.1 14 0 n + nI 1)) := by
  refine Ct.of (by decide +kernel) (k := 1) (ls0 := [some (.ref (ad G 0 0)), some (.int (-1000000001 - nI n)), none]) rfl rfl (fun _ _ => trivial) ?_
  intro P hR
  refine r_ldc hR ct_X7_81 dX7_finding_0 ?_
  refine r_iload1 hR dX7_finding_2 ?_
  refine r_isub hR dX7_finding_3 ?_
  refine r_nm (nI n) (fnd_t n hn) ?_
  refine r_istore2 hR (fun _ h => by first | (cases h; rfl) | exact absurd h (by simp)) dX7_finding_4 ?_
  refine r_iload2 hR dX7_finding_5 ?_
  refine r_bipush hR (nI 6) (by decide) dX7_finding_6 ?_
  refine r_cs2v hR ks_X7_77 (by decide) (t_X7_within) (Nat.le_of_ble_eq_true rfl) dX7_finding_8 ?_
  refine r_if_eq hR 24 dX7_finding_11 (by decide) (fun c11 => ?_) (fun c11 => ?_)
  · try simp (disch := omega) only [nI_ltI, nI_leI, nI_eq, bI_0, Decidable.not_not, lc_lt, lc_gt, lc_ge, lc_le, lc_eq, i64_toInt] at c11
    try simp (disch := omega) only [cv_lt, cv_le, cv_eq, nI_toInt, cv_0] at c11
    first
    | omega
    | refine r_iload1 hR dX7_finding_24 ?_
      refine r_iret hR dX7_finding_25 ?_
      exact ⟨rfl, rfl⟩
  · try simp (disch := omega) only [nI_ltI, nI_leI, nI_eq, bI_0, Decidable.not_not, lc_lt, lc_gt, lc_ge, lc_le, lc_eq, i64_toInt] at c11
    try simp (disch := omega) only [cv_lt, cv_le, cv_eq, nI_toInt, cv_0] at c11
    first
    | omega
    | refine r_aload0 hR dX7_finding_14 ?_
      refine r_get hR (by first | decide | assumption | (simp only [gcnt_4, gcnt_1, gcnt_2, gcnt_3, gcnt_12, gcnt_13, gcnt_16]; omega)) fl_X7_73 rfl rfl dX7_finding_15 ?_
      refine r_iload2 hR dX7_finding_18 ?_
      refine r_dup2 hR rfl rfl dX7_finding_19 ?_
      refine r_iald hR (by first | decide | assumption | (simp only [gcnt_4, gcnt_1, gcnt_2, gcnt_3, gcnt_12, gcnt_13, gcnt_16]; omega)) rfl rfl (by omega) (by decide) dX7_finding_20 ?_
      refine r_iconst hR (nI 1) (by decide) dX7_finding_21 ?_
      refine r_iadd hR dX7_finding_22 ?_
      try rw [nI_add]
      refine r_iast hR (by first | decide | assumption | (simp only [gcnt_4, gcnt_1, gcnt_2, gcnt_3, gcnt_12, gcnt_13, gcnt_16]; omega)) (fun _ => rfl) rfl (by omega) (by decide) dX7_finding_23 ?_
      refine r_iload1 hR dX7_finding_24 ?_
      refine r_iret hR dX7_finding_25 ?_
      exact ⟨rfl, rfl⟩

set_option maxHeartbeats 4000000 in
set_option maxRecDepth 100000 in
theorem t_X0_begin {G : gG} {M : gM} {x : Int32} : Cf G mX0_begin 0 [.ref (ad G 7 0), .int x] M none (seti (seti M 7 0 0 (-1)) 7 0 1 x) := by
  refine Ct.of (by decide +kernel) (k := 0) (ls0 := [some (.ref (ad G 7 0)), some (.int x)]) rfl rfl (fun _ _ => trivial) ?_
  intro P hR
  refine r_aload0 hR dX0_begin_0 ?_
  refine r_iconst hR (-1) (by decide) dX0_begin_1 ?_
  refine r_puti hR (by first | decide | assumption | (simp only [gcnt_4, gcnt_1, gcnt_2, gcnt_3, gcnt_12, gcnt_13, gcnt_16]; omega)) fp_X0_9 rfl rfl (Nat.le_of_ble_eq_true rfl) rfl rfl dX0_begin_2 ?_
  refine r_aload0 hR dX0_begin_5 ?_
  refine r_iload1 hR dX0_begin_6 ?_
  refine r_puti hR (by first | decide | assumption | (simp only [gcnt_4, gcnt_1, gcnt_2, gcnt_3, gcnt_12, gcnt_13, gcnt_16]; omega)) fp_X0_13 rfl rfl (Nat.le_of_ble_eq_true rfl) rfl rfl dX0_begin_7 ?_
  refine r_vret hR dX0_begin_10 ?_
  exact ⟨rfl, rfl⟩

set_option maxHeartbeats 4000000 in
set_option maxRecDepth 100000 in
theorem t_X0_weigh {G : gG} {M : gM} {v x m : Int32} (hm : M.1 7 0 1 = m) : Cf G mX0_weigh 0 [.ref (ad G 7 0), .int v, .int x] M none (if m.toInt < x.toInt then seti (seti M 7 0 0 v) 7 0 1 x else M) := by
  refine Ct.of (by decide +kernel) (k := 0) (ls0 := [some (.ref (ad G 7 0)), some (.int v), some (.int x)]) rfl rfl (fun _ _ => trivial) ?_
  intro P hR
  refine r_iload2 hR dX0_weigh_0 ?_
  refine r_aload0 hR dX0_weigh_1 ?_
  refine r_get hR (by first | decide | assumption | (simp only [gcnt_4, gcnt_1, gcnt_2, gcnt_3, gcnt_12, gcnt_13, gcnt_16]; omega)) fl_X0_13 rfl rfl dX0_weigh_2 ?_
  try simp only [hm]
  refine r_icmp_le hR 18 dX0_weigh_5 (by decide) (fun c5 => ?_) (fun c5 => ?_)
  · try simp (disch := omega) only [nI_ltI, nI_leI, nI_eq, bI_0, Decidable.not_not, lc_lt, lc_gt, lc_ge, lc_le, lc_eq, i64_toInt] at c5
    try simp (disch := omega) only [cv_lt, cv_le, cv_eq, nI_toInt, cv_0] at c5
    first
    | omega
    | refine r_vret hR dX0_weigh_18 ?_
      first
      | (rw [if_pos (by omega)]; exact ⟨rfl, rfl⟩)
      | (rw [if_neg (by omega)]; exact ⟨rfl, rfl⟩)
  · try simp (disch := omega) only [nI_ltI, nI_leI, nI_eq, bI_0, Decidable.not_not, lc_lt, lc_gt, lc_ge, lc_le, lc_eq, i64_toInt] at c5
    try simp (disch := omega) only [cv_lt, cv_le, cv_eq, nI_toInt, cv_0] at c5
    first
    | omega
    | refine r_aload0 hR dX0_weigh_8 ?_
      refine r_iload1 hR dX0_weigh_9 ?_
      refine r_puti hR (by first | decide | assumption | (simp only [gcnt_4, gcnt_1, gcnt_2, gcnt_3, gcnt_12, gcnt_13, gcnt_16]; omega)) fp_X0_9 rfl rfl (Nat.le_of_ble_eq_true rfl) rfl rfl dX0_weigh_10 ?_
      refine r_aload0 hR dX0_weigh_13 ?_
      refine r_iload2 hR dX0_weigh_14 ?_
      refine r_puti hR (by first | decide | assumption | (simp only [gcnt_4, gcnt_1, gcnt_2, gcnt_3, gcnt_12, gcnt_13, gcnt_16]; omega)) fp_X0_13 rfl rfl (Nat.le_of_ble_eq_true rfl) rfl rfl dX0_weigh_15 ?_
      refine r_vret hR dX0_weigh_18 ?_
      first
      | (rw [if_pos (by omega)]; exact ⟨rfl, rfl⟩)
      | (rw [if_neg (by omega)]; exact ⟨rfl, rfl⟩)

set_option maxHeartbeats 4000000 in
set_option maxRecDepth 100000 in
theorem t_X6_begin {G : gG} {M : gM} {c : Nat} (hc : c < 36) : Cf G mX6_begin 0 [.ref (ad G 5 0), .int (nI c)] M none (putR M 6 0 (begC 1000 c) 36) := by
  refine Ct.of (by decide +kernel) (k := 1) (ls0 := [some (.ref (ad G 5 0)), some (.int (nI c)), none]) rfl rfl (fun _ _ => trivial) ?_
  intro P hR
  have L : ∀ (j i : Nat), i + j = 36 → P 2 [some (.ref (ad G 5 0)), some (.int (nI c)), some (.int (nI i))] [] (putR M 6 0 (begC 1000 c) i) := by
    intro j
    induction j with
    | zero =>
      intro i hij
      refine r_iload2 hR dX6_begin_2 ?_
      refine r_bipush hR (nI 36) (by decide) dX6_begin_3 ?_
      refine r_icmp_ge hR 32 dX6_begin_5 (by decide) (fun c5 => ?_) (fun c5 => ?_)
      · try simp (disch := omega) only [nI_ltI, nI_leI, nI_eq, bI_0, Decidable.not_not, lc_lt, lc_gt, lc_ge, lc_le, lc_eq, i64_toInt] at c5
        try simp (disch := omega) only [cv_lt, cv_le, cv_eq, nI_toInt, cv_0] at c5
        first
        | omega
        | refine r_vret hR dX6_begin_32 ?_
          obtain rfl : i = 36 := by omega
          exact ⟨rfl, rfl⟩
      · try simp (disch := omega) only [nI_ltI, nI_leI, nI_eq, bI_0, Decidable.not_not, lc_lt, lc_gt, lc_ge, lc_le, lc_eq, i64_toInt] at c5
        try simp (disch := omega) only [cv_lt, cv_le, cv_eq, nI_toInt, cv_0] at c5
        first
        | omega
        | refine r_aload0 hR dX6_begin_8 ?_
          refine r_get hR (by first | decide | assumption | (simp only [gcnt_4, gcnt_1, gcnt_2, gcnt_3, gcnt_12, gcnt_13, gcnt_16]; omega)) fl_X6_9 rfl rfl dX6_begin_9 ?_
          refine r_iload2 hR dX6_begin_12 ?_
          refine r_iload2 hR dX6_begin_13 ?_
          refine r_iload1 hR dX6_begin_14 ?_
          refine r_icmp_ne hR 22 dX6_begin_15 (by decide) (fun c15 => ?_) (fun c15 => ?_)
          · try simp (disch := omega) only [nI_ltI, nI_leI, nI_eq, bI_0, Decidable.not_not, lc_lt, lc_gt, lc_ge, lc_le, lc_eq, i64_toInt] at c15
            try simp (disch := omega) only [cv_lt, cv_le, cv_eq, nI_toInt, cv_0] at c15
            first
            | omega
            | refine r_sipush hR (nI 1000) (by decide) dX6_begin_22 ?_
              omega
          · try simp (disch := omega) only [nI_ltI, nI_leI, nI_eq, bI_0, Decidable.not_not, lc_lt, lc_gt, lc_ge, lc_le, lc_eq, i64_toInt] at c15
            try simp (disch := omega) only [cv_lt, cv_le, cv_eq, nI_toInt, cv_0] at c15
            first
            | omega
            | refine r_iconst hR (nI 0) (by decide) dX6_begin_18 ?_
              refine r_goto hR 25 dX6_begin_19 (by decide) ?_
              omega
    | succ j ih =>
      intro i hij
      have J25 : P 25 [some (.ref (ad G 5 0)), some (.int (nI c)), some (.int (nI i))] [.int (nI (begC 1000 c i)), .int (nI i), .ref (ad G 6 0)] (putR M 6 0 (begC 1000 c) i) := by
        refine r_iast hR (by first | decide | assumption | (simp only [gcnt_4, gcnt_1, gcnt_2, gcnt_3, gcnt_12, gcnt_13, gcnt_16]; omega)) (fun _ => rfl) rfl (by omega) (by decide) dX6_begin_25 ?_
        refine r_iinc2 hR (nI 1) (by decide) (fun _ h => by first | (cases h; rfl) | exact absurd h (by simp)) dX6_begin_26 ?_
        try rw [nI_add]
        refine r_goto hR 2 dX6_begin_29 (by decide) ?_
        rw [putR_grow]
        exact ih (i + 1) (by omega)
      refine r_iload2 hR dX6_begin_2 ?_
      refine r_bipush hR (nI 36) (by decide) dX6_begin_3 ?_
      refine r_icmp_ge hR 32 dX6_begin_5 (by decide) (fun c5 => ?_) (fun c5 => ?_)
      · try simp (disch := omega) only [nI_ltI, nI_leI, nI_eq, bI_0, Decidable.not_not, lc_lt, lc_gt, lc_ge, lc_le, lc_eq, i64_toInt] at c5
        try simp (disch := omega) only [cv_lt, cv_le, cv_eq, nI_toInt, cv_0] at c5
        first
        | omega
        | refine r_vret hR dX6_begin_32 ?_
          omega
      · try simp (disch := omega) only [nI_ltI, nI_leI, nI_eq, bI_0, Decidable.not_not, lc_lt, lc_gt, lc_ge, lc_le, lc_eq, i64_toInt] at c5
        try simp (disch := omega) only [cv_lt, cv_le, cv_eq, nI_toInt, cv_0] at c5
        first
        | omega
        | refine r_aload0 hR dX6_begin_8 ?_
          refine r_get hR (by first | decide | assumption | (simp only [gcnt_4, gcnt_1, gcnt_2, gcnt_3, gcnt_12, gcnt_13, gcnt_16]; omega)) fl_X6_9 rfl rfl dX6_begin_9 ?_
          refine r_iload2 hR dX6_begin_12 ?_
          refine r_iload2 hR dX6_begin_13 ?_
          refine r_iload1 hR dX6_begin_14 ?_
          refine r_icmp_ne hR 22 dX6_begin_15 (by decide) (fun c15 => ?_) (fun c15 => ?_)
          · try simp (disch := omega) only [nI_ltI, nI_leI, nI_eq, bI_0, Decidable.not_not, lc_lt, lc_gt, lc_ge, lc_le, lc_eq, i64_toInt] at c15
            try simp (disch := omega) only [cv_lt, cv_le, cv_eq, nI_toInt, cv_0] at c15
            first
            | omega
            | refine r_sipush hR (nI 1000) (by decide) dX6_begin_22 ?_
              refine r_nm (nI (begC 1000 c i)) (by unfold begC; split <;> first | rfl | omega) ?_
              exact J25
          · try simp (disch := omega) only [nI_ltI, nI_leI, nI_eq, bI_0, Decidable.not_not, lc_lt, lc_gt, lc_ge, lc_le, lc_eq, i64_toInt] at c15
            try simp (disch := omega) only [cv_lt, cv_le, cv_eq, nI_toInt, cv_0] at c15
            first
            | omega
            | refine r_iconst hR (nI 0) (by decide) dX6_begin_18 ?_
              refine r_goto hR 25 dX6_begin_19 (by decide) ?_
              refine r_nm (nI (begC 1000 c i)) (by unfold begC; split <;> first | rfl | omega) ?_
              exact J25
  refine r_iconst hR (nI 0) (by decide) dX6_begin_0 ?_
  refine r_istore2 hR (fun _ h => by first | (cases h; rfl) | exact absurd h (by simp)) dX6_begin_1 ?_
  refine r_mem (putR_z M 6 0 (begC 1000 c)).symm ?_
  exact L 36 0 rfl

set_option maxHeartbeats 4000000 in
set_option maxRecDepth 100000 in
theorem t_X6_lower {G : gG} {M : gM} {N : Nat → Nat} {x v : Nat} (hN : ∀ j, j < 36 → M.1 6 1 j = nI (N j)) (hB : ∀ j, N j ≤ 2000) (hx : x < 36) (hv : v < 2000) : Cf G mX6_lower 1 [.ref (ad G 5 0), .int (nI x), .int (nI v)] M none (putR M 6 1 (low N x v) 36) := by
  refine Ct.of (by decide +kernel) (k := 0) (ls0 := [some (.ref (ad G 5 0)), some (.int (nI x)), some (.int (nI v))]) rfl rfl (fun _ _ => trivial) ?_
  intro P hR
  refine r_iload1 hR dX6_lower_0 ?_
  refine r_bipush hR (nI 35) (by decide) dX6_lower_1 ?_
  refine r_cn2v hR kn_X7_within (fun _ h => h.2.2.2.2.2.2.1) (by decide) (t_X7_within) (Nat.le_of_ble_eq_true rfl) dX6_lower_3 ?_
  refine r_if_eq hR 26 dX6_lower_6 (by decide) (fun c6 => ?_) (fun c6 => ?_)
  · try simp (disch := omega) only [nI_ltI, nI_leI, nI_eq, bI_0, Decidable.not_not, lc_lt, lc_gt, lc_ge, lc_le, lc_eq, i64_toInt] at c6
    try simp (disch := omega) only [cv_lt, cv_le, cv_eq, nI_toInt, cv_0] at c6
    first
    | omega
    | refine r_vret hR dX6_lower_26 ?_
      refine ⟨rfl, ?_⟩
      unfold low
      first
      | (rw [if_pos (by omega), ← putR_seti M 6 1 N hx, putR_id hN]; done)
      | (rw [if_neg (by omega), putR_id hN])
  · try simp (disch := omega) only [nI_ltI, nI_leI, nI_eq, bI_0, Decidable.not_not, lc_lt, lc_gt, lc_ge, lc_le, lc_eq, i64_toInt] at c6
    try simp (disch := omega) only [cv_lt, cv_le, cv_eq, nI_toInt, cv_0] at c6
    first
    | omega
    | refine r_iload2 hR dX6_lower_9 ?_
      refine r_aload0 hR dX6_lower_10 ?_
      refine r_get hR (by first | decide | assumption | (simp only [gcnt_4, gcnt_1, gcnt_2, gcnt_3, gcnt_12, gcnt_13, gcnt_16]; omega)) fl_X6_15 rfl rfl dX6_lower_11 ?_
      refine r_iload1 hR dX6_lower_14 ?_
      refine r_iald hR (by first | decide | assumption | (simp only [gcnt_4, gcnt_1, gcnt_2, gcnt_3, gcnt_12, gcnt_13, gcnt_16]; omega)) rfl rfl (by omega) (by decide) dX6_lower_15 ?_
      rw [hN x hx]
      have hBx := hB x
      refine r_icmp_ge hR 26 dX6_lower_16 (by decide) (fun c16 => ?_) (fun c16 => ?_)
      · try simp (disch := omega) only [nI_ltI, nI_leI, nI_eq, bI_0, Decidable.not_not, lc_lt, lc_gt, lc_ge, lc_le, lc_eq, i64_toInt] at c16
        try simp (disch := omega) only [cv_lt, cv_le, cv_eq, nI_toInt, cv_0] at c16
        first
        | omega
        | refine r_vret hR dX6_lower_26 ?_
          refine ⟨rfl, ?_⟩
          unfold low
          first
          | (rw [if_pos (by omega), ← putR_seti M 6 1 N hx, putR_id hN]; done)
          | (rw [if_neg (by omega), putR_id hN])
      · try simp (disch := omega) only [nI_ltI, nI_leI, nI_eq, bI_0, Decidable.not_not, lc_lt, lc_gt, lc_ge, lc_le, lc_eq, i64_toInt] at c16
        try simp (disch := omega) only [cv_lt, cv_le, cv_eq, nI_toInt, cv_0] at c16
        first
        | omega
        | refine r_aload0 hR dX6_lower_19 ?_
          refine r_get hR (by first | decide | assumption | (simp only [gcnt_4, gcnt_1, gcnt_2, gcnt_3, gcnt_12, gcnt_13, gcnt_16]; omega)) fl_X6_15 rfl rfl dX6_lower_20 ?_
          refine r_iload1 hR dX6_lower_23 ?_
          refine r_iload2 hR dX6_lower_24 ?_
          refine r_iast hR (by first | decide | assumption | (simp only [gcnt_4, gcnt_1, gcnt_2, gcnt_3, gcnt_12, gcnt_13, gcnt_16]; omega)) (fun _ => rfl) rfl (by omega) (by decide) dX6_lower_25 ?_
          refine r_vret hR dX6_lower_26 ?_
          refine ⟨rfl, ?_⟩
          unfold low
          first
          | (rw [if_pos (by omega), ← putR_seti M 6 1 N hx, putR_id hN]; done)
          | (rw [if_neg (by omega), putR_id hN])

set_option maxHeartbeats 4000000 in
set_option maxRecDepth 100000 in
theorem t_X6_goDay {G : gG} {M : gM} {t kd f fo own : Nat} {K : Nat → Nat} (ht : t < 26) (hk : M.1 4 t 0 = nI kd) (hf : M.1 4 t 2 = nI f) (hk6 : kd < 6) (hf8 : f < 8) (how : own < 9) (hfo : fo ≤ 9) (hK : ∀ j, j < 36 → M.1 6 0 j = nI (K j)) (hKb : ∀ j, K j ≤ 1000) : Cf G mX6_goDay 3 [.ref (ad G 5 0), .ref (ad G 4 t), .int (nI own), .int (nI fo)] M none (putR (putR M 6 1 (stepP 1000 K kd f fo own 36) 36) 6 0 (stepP 1000 K kd f fo own 36) 36) := by
  refine Ct.of (by decide +kernel) (k := 2) (ls0 := [some (.ref (ad G 5 0)), some (.ref (ad G 4 t)), some (.int (nI own)), some (.int (nI fo)), none, none]) rfl rfl (fun _ _ => trivial) ?_
  intro P hR
  have L2 : ∀ (j i : Nat) (x5 : Option Value), i + j = 36 → P 29 [some (.ref (ad G 5 0)), some (.ref (ad G 4 t)), some (.int (nI own)), some (.int (nI fo)), some (.int (nI i)), x5] [] (putR M 6 1 (stepP 1000 K kd f fo own i) 36) := by
    intro j
    induction j with
    | zero =>
      intro i x5 hij
      refine r_iload4 hR dX6_goDay_29 ?_
      refine r_bipush hR (nI 36) (by decide) dX6_goDay_31 ?_
      refine r_icmp_ge hR 112 dX6_goDay_33 (by decide) (fun c33 => ?_) (fun c33 => ?_)
      · try simp (disch := omega) only [nI_ltI, nI_leI, nI_eq, bI_0, Decidable.not_not, lc_lt, lc_gt, lc_ge, lc_le, lc_eq, i64_toInt] at c33
        try simp (disch := omega) only [cv_lt, cv_le, cv_eq, nI_toInt, cv_0] at c33
        first
        | omega
        | refine r_aload0 hR dX6_goDay_112 ?_
          refine r_get hR (by first | decide | assumption | (simp only [gcnt_4, gcnt_1, gcnt_2, gcnt_3, gcnt_12, gcnt_13, gcnt_16]; omega)) fl_X6_15 rfl rfl dX6_goDay_113 ?_
          refine r_iconst hR (nI 0) (by decide) dX6_goDay_116 ?_
          refine r_aload0 hR dX6_goDay_117 ?_
          refine r_get hR (by first | decide | assumption | (simp only [gcnt_4, gcnt_1, gcnt_2, gcnt_3, gcnt_12, gcnt_13, gcnt_16]; omega)) fl_X6_9 rfl rfl dX6_goDay_118 ?_
          refine r_iconst hR (nI 0) (by decide) dX6_goDay_121 ?_
          refine r_bipush hR (nI 36) (by decide) dX6_goDay_122 ?_
          refine r_copyi hR ka_X6_28 (by decide) (by decide) (by decide) rfl (fun _ => rfl) rfl rfl rfl (by decide) (by decide) (by decide) (by decide) (Nat.le_of_ble_eq_true rfl) dX6_goDay_124 ?_
          refine r_vret hR dX6_goDay_127 ?_
          obtain rfl : i = 36 := by omega
          refine ⟨rfl, ?_⟩
          exact putR_copy _ 6 1 0 _ 36 (fun j hj => putR_at M 6 1 _ hj)
      · try simp (disch := omega) only [nI_ltI, nI_leI, nI_eq, bI_0, Decidable.not_not, lc_lt, lc_gt, lc_ge, lc_le, lc_eq, i64_toInt] at c33
        try simp (disch := omega) only [cv_lt, cv_le, cv_eq, nI_toInt, cv_0] at c33
        first
        | omega
        | refine r_aload0 hR dX6_goDay_36 ?_
          refine r_get hR (by first | decide | assumption | (simp only [gcnt_4, gcnt_1, gcnt_2, gcnt_3, gcnt_12, gcnt_13, gcnt_16]; omega)) fl_X6_9 rfl rfl dX6_goDay_37 ?_
          refine r_iload4 hR dX6_goDay_40 ?_
          refine r_iald hR (by first | decide | assumption | (simp only [gcnt_4, gcnt_1, gcnt_2, gcnt_3, gcnt_12, gcnt_13, gcnt_16]; omega)) rfl rfl (by omega) (by decide) dX6_goDay_42 ?_
          rw [putR_far M _ 36 (by omega), hK i (by omega)]
          have hKi := hKb i
          refine r_sipush hR (nI 1000) (by decide) dX6_goDay_43 ?_
          refine r_icmp_ge hR 106 dX6_goDay_46 (by decide) (fun c46 => ?_) (fun c46 => ?_)
          · try simp (disch := omega) only [nI_ltI, nI_leI, nI_eq, bI_0, Decidable.not_not, lc_lt, lc_gt, lc_ge, lc_le, lc_eq, i64_toInt] at c46
            try simp (disch := omega) only [cv_lt, cv_le, cv_eq, nI_toInt, cv_0] at c46
            first
            | omega
            | refine r_iinc4 hR (nI 1) (by decide) (fun _ h => by first | (cases h; rfl) | exact absurd h (by simp)) dX6_goDay_106 ?_
              try rw [nI_add]
              refine r_goto hR 29 dX6_goDay_109 (by decide) ?_
              omega
          · try simp (disch := omega) only [nI_ltI, nI_leI, nI_eq, bI_0, Decidable.not_not, lc_lt, lc_gt, lc_ge, lc_le, lc_eq, i64_toInt] at c46
            try simp (disch := omega) only [cv_lt, cv_le, cv_eq, nI_toInt, cv_0] at c46
            first
            | omega
            | refine r_aload0 hR dX6_goDay_49 ?_
              refine r_aload1 hR dX6_goDay_50 ?_
              refine r_iload4 hR dX6_goDay_51 ?_
              refine r_iload2 hR dX6_goDay_53 ?_
              refine r_iload3 hR dX6_goDay_54 ?_
              refine r_cv3v hR kv_X6_18 (by decide) (t_X5_cellAfter ht (by rw [putR_far M _ 36 (by omega)]; exact hk) (by rw [putR_far M _ 36 (by omega)]; exact hf) hk6 hf8 how hfo (by omega)) (by first | decide | assumption | (simp only [gcnt_4, gcnt_1, gcnt_2, gcnt_3, gcnt_12, gcnt_13, gcnt_16]; omega)) rfl rfl (Nat.le_of_ble_eq_true rfl) dX6_goDay_55 ?_
              refine r_aload0 hR dX6_goDay_58 ?_
              refine r_get hR (by first | decide | assumption | (simp only [gcnt_4, gcnt_1, gcnt_2, gcnt_3, gcnt_12, gcnt_13, gcnt_16]; omega)) fl_X6_9 rfl rfl dX6_goDay_59 ?_
              refine r_iload4 hR dX6_goDay_62 ?_
              refine r_iald hR (by first | decide | assumption | (simp only [gcnt_4, gcnt_1, gcnt_2, gcnt_3, gcnt_12, gcnt_13, gcnt_16]; omega)) rfl rfl (by omega) (by decide) dX6_goDay_64 ?_
              rw [putR_far M _ 36 (by omega), hK i (by omega)]
              refine r_cv2u hR kv_X6_24 (by decide) (t_X6_lower (fun j hj => putR_at M 6 1 _ hj) (fun j => Nat.le_trans ((stepP_le i) j) (by decide)) (wen_lt (by omega)) (by omega)) (by first | decide | assumption | (simp only [gcnt_4, gcnt_1, gcnt_2, gcnt_3, gcnt_12, gcnt_13, gcnt_16]; omega)) rfl rfl (Nat.le_of_ble_eq_true rfl) dX6_goDay_65 ?_
              omega
    | succ j ih =>
      intro i x5 hij
      refine r_iload4 hR dX6_goDay_29 ?_
      refine r_bipush hR (nI 36) (by decide) dX6_goDay_31 ?_
      refine r_icmp_ge hR 112 dX6_goDay_33 (by decide) (fun c33 => ?_) (fun c33 => ?_)
      · try simp (disch := omega) only [nI_ltI, nI_leI, nI_eq, bI_0, Decidable.not_not, lc_lt, lc_gt, lc_ge, lc_le, lc_eq, i64_toInt] at c33
        try simp (disch := omega) only [cv_lt, cv_le, cv_eq, nI_toInt, cv_0] at c33
        first
        | omega
        | refine r_aload0 hR dX6_goDay_112 ?_
          refine r_get hR (by first | decide | assumption | (simp only [gcnt_4, gcnt_1, gcnt_2, gcnt_3, gcnt_12, gcnt_13, gcnt_16]; omega)) fl_X6_15 rfl rfl dX6_goDay_113 ?_
          refine r_iconst hR (nI 0) (by decide) dX6_goDay_116 ?_
          refine r_aload0 hR dX6_goDay_117 ?_
          refine r_get hR (by first | decide | assumption | (simp only [gcnt_4, gcnt_1, gcnt_2, gcnt_3, gcnt_12, gcnt_13, gcnt_16]; omega)) fl_X6_9 rfl rfl dX6_goDay_118 ?_
          refine r_iconst hR (nI 0) (by decide) dX6_goDay_121 ?_
          refine r_bipush hR (nI 36) (by decide) dX6_goDay_122 ?_
          refine r_copyi hR ka_X6_28 (by decide) (by decide) (by decide) rfl (fun _ => rfl) rfl rfl rfl (by decide) (by decide) (by decide) (by decide) (Nat.le_of_ble_eq_true rfl) dX6_goDay_124 ?_
          refine r_vret hR dX6_goDay_127 ?_
          omega
      · try simp (disch := omega) only [nI_ltI, nI_leI, nI_eq, bI_0, Decidable.not_not, lc_lt, lc_gt, lc_ge, lc_le, lc_eq, i64_toInt] at c33
        try simp (disch := omega) only [cv_lt, cv_le, cv_eq, nI_toInt, cv_0] at c33
        first
        | omega
        | refine r_aload0 hR dX6_goDay_36 ?_
          refine r_get hR (by first | decide | assumption | (simp only [gcnt_4, gcnt_1, gcnt_2, gcnt_3, gcnt_12, gcnt_13, gcnt_16]; omega)) fl_X6_9 rfl rfl dX6_goDay_37 ?_
          refine r_iload4 hR dX6_goDay_40 ?_
          refine r_iald hR (by first | decide | assumption | (simp only [gcnt_4, gcnt_1, gcnt_2, gcnt_3, gcnt_12, gcnt_13, gcnt_16]; omega)) rfl rfl (by omega) (by decide) dX6_goDay_42 ?_
          rw [putR_far M _ 36 (by omega), hK i (by omega)]
          have hKi := hKb i
          refine r_sipush hR (nI 1000) (by decide) dX6_goDay_43 ?_
          refine r_icmp_ge hR 106 dX6_goDay_46 (by decide) (fun c46 => ?_) (fun c46 => ?_)
          · try simp (disch := omega) only [nI_ltI, nI_leI, nI_eq, bI_0, Decidable.not_not, lc_lt, lc_gt, lc_ge, lc_le, lc_eq, i64_toInt] at c46
            try simp (disch := omega) only [cv_lt, cv_le, cv_eq, nI_toInt, cv_0] at c46
            first
            | omega
            | refine r_iinc4 hR (nI 1) (by decide) (fun _ h => by first | (cases h; rfl) | exact absurd h (by simp)) dX6_goDay_106 ?_
              try rw [nI_add]
              refine r_goto hR 29 dX6_goDay_109 (by decide) ?_
              refine r_mem (M2 := (putR M 6 1 (stepP 1000 K kd f fo own (i + 1)) 36)) ?_ (ih (i + 1) _ (by omega))
              show _ = putR M 6 1 (rowC 1000 (stepP 1000 K kd f fo own i) K kd f fo own i) 36
              unfold rowC
              rw [if_neg (by omega)]
          · try simp (disch := omega) only [nI_ltI, nI_leI, nI_eq, bI_0, Decidable.not_not, lc_lt, lc_gt, lc_ge, lc_le, lc_eq, i64_toInt] at c46
            try simp (disch := omega) only [cv_lt, cv_le, cv_eq, nI_toInt, cv_0] at c46
            first
            | omega
            | have L3 : ∀ (j3 k : Nat), k + j3 = 8 → P 71 [some (.ref (ad G 5 0)), some (.ref (ad G 4 t)), some (.int (nI own)), some (.int (nI fo)), some (.int (nI i)), some (.int (nI k))] [] (putR M 6 1 (lowW (low (stepP 1000 K kd f fo own i) (wenN kd f fo i own) (K i)) K i kd f fo k) 36) := by
                intro j3
                induction j3 with
                | zero =>
                  intro k hk3
                  refine r_iload5 hR dX6_goDay_71 ?_
                  refine r_bipush hR (nI 8) (by decide) dX6_goDay_73 ?_
                  refine r_icmp_ge hR 106 dX6_goDay_75 (by decide) (fun c75 => ?_) (fun c75 => ?_)
                  · try simp (disch := omega) only [nI_ltI, nI_leI, nI_eq, bI_0, Decidable.not_not, lc_lt, lc_gt, lc_ge, lc_le, lc_eq, i64_toInt] at c75
                    try simp (disch := omega) only [cv_lt, cv_le, cv_eq, nI_toInt, cv_0] at c75
                    first
                    | omega
                    | refine r_iinc4 hR (nI 1) (by decide) (fun _ h => by first | (cases h; rfl) | exact absurd h (by simp)) dX6_goDay_106 ?_
                      try rw [nI_add]
                      refine r_goto hR 29 dX6_goDay_109 (by decide) ?_
                      refine r_mem (M2 := (putR M 6 1 (stepP 1000 K kd f fo own (i + 1)) 36)) ?_ (ih (i + 1) _ (by omega))
                      obtain rfl : k = 8 := by omega
                      show _ = putR M 6 1 (rowC 1000 (stepP 1000 K kd f fo own i) K kd f fo own i) 36
                      unfold rowC
                      rw [if_pos (by omega)]
                  · try simp (disch := omega) only [nI_ltI, nI_leI, nI_eq, bI_0, Decidable.not_not, lc_lt, lc_gt, lc_ge, lc_le, lc_eq, i64_toInt] at c75
                    try simp (disch := omega) only [cv_lt, cv_le, cv_eq, nI_toInt, cv_0] at c75
                    first
                    | omega
                    | refine r_aload0 hR dX6_goDay_78 ?_
                      refine r_aload1 hR dX6_goDay_79 ?_
                      refine r_iload4 hR dX6_goDay_80 ?_
                      refine r_iload5 hR dX6_goDay_82 ?_
                      refine r_iload3 hR dX6_goDay_84 ?_
                      refine r_cv3v hR kv_X6_18 (by decide) (t_X5_cellAfter ht (by rw [putR_far M _ 36 (by omega)]; exact hk) (by rw [putR_far M _ 36 (by omega)]; exact hf) hk6 hf8 (by omega) hfo (by omega)) (by first | decide | assumption | (simp only [gcnt_4, gcnt_1, gcnt_2, gcnt_3, gcnt_12, gcnt_13, gcnt_16]; omega)) rfl rfl (Nat.le_of_ble_eq_true rfl) dX6_goDay_85 ?_
                      refine r_aload0 hR dX6_goDay_88 ?_
                      refine r_get hR (by first | decide | assumption | (simp only [gcnt_4, gcnt_1, gcnt_2, gcnt_3, gcnt_12, gcnt_13, gcnt_16]; omega)) fl_X6_9 rfl rfl dX6_goDay_89 ?_
                      refine r_iload4 hR dX6_goDay_92 ?_
                      refine r_iald hR (by first | decide | assumption | (simp only [gcnt_4, gcnt_1, gcnt_2, gcnt_3, gcnt_12, gcnt_13, gcnt_16]; omega)) rfl rfl (by omega) (by decide) dX6_goDay_94 ?_
                      rw [putR_far M _ 36 (by omega), hK i (by omega)]
                      refine r_iconst hR (nI 1) (by decide) dX6_goDay_95 ?_
                      refine r_iadd hR dX6_goDay_96 ?_
                      try rw [nI_add]
                      refine r_cv2u hR kv_X6_24 (by decide) (t_X6_lower (fun j hj => putR_at M 6 1 _ hj) (fun j => Nat.le_trans ((lowW_le (low_le (stepP_le i)) k) j) (by decide)) (wen_lt (by omega)) (by omega)) (by first | decide | assumption | (simp only [gcnt_4, gcnt_1, gcnt_2, gcnt_3, gcnt_12, gcnt_13, gcnt_16]; omega)) rfl rfl (Nat.le_of_ble_eq_true rfl) dX6_goDay_97 ?_
                      refine r_mem (putR_put M 6 1 _ _ (Nat.le_refl 36)) ?_
                      refine r_iinc5 hR (nI 1) (by decide) (fun _ h => by first | (cases h; rfl) | exact absurd h (by simp)) dX6_goDay_100 ?_
                      try rw [nI_add]
                      refine r_goto hR 71 dX6_goDay_103 (by decide) ?_
                      omega
                | succ j3 ih3 =>
                  intro k hk3
                  refine r_iload5 hR dX6_goDay_71 ?_
                  refine r_bipush hR (nI 8) (by decide) dX6_goDay_73 ?_
                  refine r_icmp_ge hR 106 dX6_goDay_75 (by decide) (fun c75 => ?_) (fun c75 => ?_)
                  · try simp (disch := omega) only [nI_ltI, nI_leI, nI_eq, bI_0, Decidable.not_not, lc_lt, lc_gt, lc_ge, lc_le, lc_eq, i64_toInt] at c75
                    try simp (disch := omega) only [cv_lt, cv_le, cv_eq, nI_toInt, cv_0] at c75
                    first
                    | omega
                    | refine r_iinc4 hR (nI 1) (by decide) (fun _ h => by first | (cases h; rfl) | exact absurd h (by simp)) dX6_goDay_106 ?_
                      try rw [nI_add]
                      refine r_goto hR 29 dX6_goDay_109 (by decide) ?_
                      omega
                  · try simp (disch := omega) only [nI_ltI, nI_leI, nI_eq, bI_0, Decidable.not_not, lc_lt, lc_gt, lc_ge, lc_le, lc_eq, i64_toInt] at c75
                    try simp (disch := omega) only [cv_lt, cv_le, cv_eq, nI_toInt, cv_0] at c75
                    first
                    | omega
                    | refine r_aload0 hR dX6_goDay_78 ?_
                      refine r_aload1 hR dX6_goDay_79 ?_
                      refine r_iload4 hR dX6_goDay_80 ?_
                      refine r_iload5 hR dX6_goDay_82 ?_
                      refine r_iload3 hR dX6_goDay_84 ?_
                      refine r_cv3v hR kv_X6_18 (by decide) (t_X5_cellAfter ht (by rw [putR_far M _ 36 (by omega)]; exact hk) (by rw [putR_far M _ 36 (by omega)]; exact hf) hk6 hf8 (by omega) hfo (by omega)) (by first | decide | assumption | (simp only [gcnt_4, gcnt_1, gcnt_2, gcnt_3, gcnt_12, gcnt_13, gcnt_16]; omega)) rfl rfl (Nat.le_of_ble_eq_true rfl) dX6_goDay_85 ?_
                      refine r_aload0 hR dX6_goDay_88 ?_
                      refine r_get hR (by first | decide | assumption | (simp only [gcnt_4, gcnt_1, gcnt_2, gcnt_3, gcnt_12, gcnt_13, gcnt_16]; omega)) fl_X6_9 rfl rfl dX6_goDay_89 ?_
                      refine r_iload4 hR dX6_goDay_92 ?_
                      refine r_iald hR (by first | decide | assumption | (simp only [gcnt_4, gcnt_1, gcnt_2, gcnt_3, gcnt_12, gcnt_13, gcnt_16]; omega)) rfl rfl (by omega) (by decide) dX6_goDay_94 ?_
                      rw [putR_far M _ 36 (by omega), hK i (by omega)]
                      refine r_iconst hR (nI 1) (by decide) dX6_goDay_95 ?_
                      refine r_iadd hR dX6_goDay_96 ?_
                      try rw [nI_add]
                      refine r_cv2u hR kv_X6_24 (by decide) (t_X6_lower (fun j hj => putR_at M 6 1 _ hj) (fun j => Nat.le_trans ((lowW_le (low_le (stepP_le i)) k) j) (by decide)) (wen_lt (by omega)) (by omega)) (by first | decide | assumption | (simp only [gcnt_4, gcnt_1, gcnt_2, gcnt_3, gcnt_12, gcnt_13, gcnt_16]; omega)) rfl rfl (Nat.le_of_ble_eq_true rfl) dX6_goDay_97 ?_
                      refine r_mem (putR_put M 6 1 _ _ (Nat.le_refl 36)) ?_
                      refine r_iinc5 hR (nI 1) (by decide) (fun _ h => by first | (cases h; rfl) | exact absurd h (by simp)) dX6_goDay_100 ?_
                      try rw [nI_add]
                      refine r_goto hR 71 dX6_goDay_103 (by decide) ?_
                      exact ih3 (k + 1) (by omega)
              refine r_aload0 hR dX6_goDay_49 ?_
              refine r_aload1 hR dX6_goDay_50 ?_
              refine r_iload4 hR dX6_goDay_51 ?_
              refine r_iload2 hR dX6_goDay_53 ?_
              refine r_iload3 hR dX6_goDay_54 ?_
              refine r_cv3v hR kv_X6_18 (by decide) (t_X5_cellAfter ht (by rw [putR_far M _ 36 (by omega)]; exact hk) (by rw [putR_far M _ 36 (by omega)]; exact hf) hk6 hf8 how hfo (by omega)) (by first | decide | assumption | (simp only [gcnt_4, gcnt_1, gcnt_2, gcnt_3, gcnt_12, gcnt_13, gcnt_16]; omega)) rfl rfl (Nat.le_of_ble_eq_true rfl) dX6_goDay_55 ?_
              refine r_aload0 hR dX6_goDay_58 ?_
              refine r_get hR (by first | decide | assumption | (simp only [gcnt_4, gcnt_1, gcnt_2, gcnt_3, gcnt_12, gcnt_13, gcnt_16]; omega)) fl_X6_9 rfl rfl dX6_goDay_59 ?_
              refine r_iload4 hR dX6_goDay_62 ?_
              refine r_iald hR (by first | decide | assumption | (simp only [gcnt_4, gcnt_1, gcnt_2, gcnt_3, gcnt_12, gcnt_13, gcnt_16]; omega)) rfl rfl (by omega) (by decide) dX6_goDay_64 ?_
              rw [putR_far M _ 36 (by omega), hK i (by omega)]
              refine r_cv2u hR kv_X6_24 (by decide) (t_X6_lower (fun j hj => putR_at M 6 1 _ hj) (fun j => Nat.le_trans ((stepP_le i) j) (by decide)) (wen_lt (by omega)) (by omega)) (by first | decide | assumption | (simp only [gcnt_4, gcnt_1, gcnt_2, gcnt_3, gcnt_12, gcnt_13, gcnt_16]; omega)) rfl rfl (Nat.le_of_ble_eq_true rfl) dX6_goDay_65 ?_
              refine r_mem (putR_put M 6 1 _ _ (Nat.le_refl 36)) ?_
              refine r_iconst hR (nI 0) (by decide) dX6_goDay_68 ?_
              refine r_istore5 hR (fun _ h => by first | (cases h; rfl) | exact absurd h (by simp)) dX6_goDay_69 ?_
              exact L3 8 0 rfl
  have L1 : ∀ (j i : Nat) (x5 : Option Value), i + j = 36 → P 3 [some (.ref (ad G 5 0)), some (.ref (ad G 4 t)), some (.int (nI own)), some (.int (nI fo)), some (.int (nI i)), x5] [] (putR M 6 1 (fun _ => 1000) i) := by
    intro j
    induction j with
    | zero =>
      intro i x5 hij 
      refine r_iload4 hR dX6_goDay_3 ?_
      refine r_bipush hR (nI 36) (by decide) dX6_goDay_5 ?_
      refine r_icmp_ge hR 26 dX6_goDay_7 (by decide) (fun c7 => ?_) (fun c7 => ?_)
      · try simp (disch := omega) only [nI_ltI, nI_leI, nI_eq, bI_0, Decidable.not_not, lc_lt, lc_gt, lc_ge, lc_le, lc_eq, i64_toInt] at c7
        try simp (disch := omega) only [cv_lt, cv_le, cv_eq, nI_toInt, cv_0] at c7
        first
        | omega
        | refine r_iconst hR (nI 0) (by decide) dX6_goDay_26 ?_
          refine r_istore4 hR (fun _ h => by first | (cases h; rfl) | exact absurd h (by simp)) dX6_goDay_27 ?_
          obtain rfl : i = 36 := by omega
          exact L2 36 0 _ rfl
      · try simp (disch := omega) only [nI_ltI, nI_leI, nI_eq, bI_0, Decidable.not_not, lc_lt, lc_gt, lc_ge, lc_le, lc_eq, i64_toInt] at c7
        try simp (disch := omega) only [cv_lt, cv_le, cv_eq, nI_toInt, cv_0] at c7
        first
        | omega
        | refine r_aload0 hR dX6_goDay_10 ?_
          refine r_get hR (by first | decide | assumption | (simp only [gcnt_4, gcnt_1, gcnt_2, gcnt_3, gcnt_12, gcnt_13, gcnt_16]; omega)) fl_X6_15 rfl rfl dX6_goDay_11 ?_
          refine r_iload4 hR dX6_goDay_14 ?_
          refine r_sipush hR (nI 1000) (by decide) dX6_goDay_16 ?_
          refine r_iast hR (by first | decide | assumption | (simp only [gcnt_4, gcnt_1, gcnt_2, gcnt_3, gcnt_12, gcnt_13, gcnt_16]; omega)) (fun _ => rfl) rfl (by omega) (by decide) dX6_goDay_19 ?_
          refine r_iinc4 hR (nI 1) (by decide) (fun _ h => by first | (cases h; rfl) | exact absurd h (by simp)) dX6_goDay_20 ?_
          try rw [nI_add]
          refine r_goto hR 3 dX6_goDay_23 (by decide) ?_
          omega
    | succ j ih =>
      intro i x5 hij 
      refine r_iload4 hR dX6_goDay_3 ?_
      refine r_bipush hR (nI 36) (by decide) dX6_goDay_5 ?_
      refine r_icmp_ge hR 26 dX6_goDay_7 (by decide) (fun c7 => ?_) (fun c7 => ?_)
      · try simp (disch := omega) only [nI_ltI, nI_leI, nI_eq, bI_0, Decidable.not_not, lc_lt, lc_gt, lc_ge, lc_le, lc_eq, i64_toInt] at c7
        try simp (disch := omega) only [cv_lt, cv_le, cv_eq, nI_toInt, cv_0] at c7
        first
        | omega
        | refine r_iconst hR (nI 0) (by decide) dX6_goDay_26 ?_
          refine r_istore4 hR (fun _ h => by first | (cases h; rfl) | exact absurd h (by simp)) dX6_goDay_27 ?_
          obtain rfl : i = 36 := by omega
          exact L2 36 0 _ rfl
      · try simp (disch := omega) only [nI_ltI, nI_leI, nI_eq, bI_0, Decidable.not_not, lc_lt, lc_gt, lc_ge, lc_le, lc_eq, i64_toInt] at c7
        try simp (disch := omega) only [cv_lt, cv_le, cv_eq, nI_toInt, cv_0] at c7
        first
        | omega
        | refine r_aload0 hR dX6_goDay_10 ?_
          refine r_get hR (by first | decide | assumption | (simp only [gcnt_4, gcnt_1, gcnt_2, gcnt_3, gcnt_12, gcnt_13, gcnt_16]; omega)) fl_X6_15 rfl rfl dX6_goDay_11 ?_
          refine r_iload4 hR dX6_goDay_14 ?_
          refine r_sipush hR (nI 1000) (by decide) dX6_goDay_16 ?_
          refine r_iast hR (by first | decide | assumption | (simp only [gcnt_4, gcnt_1, gcnt_2, gcnt_3, gcnt_12, gcnt_13, gcnt_16]; omega)) (fun _ => rfl) rfl (by omega) (by decide) dX6_goDay_19 ?_
          refine r_iinc4 hR (nI 1) (by decide) (fun _ h => by first | (cases h; rfl) | exact absurd h (by simp)) dX6_goDay_20 ?_
          try rw [nI_add]
          refine r_goto hR 3 dX6_goDay_23 (by decide) ?_
          rw [putR_grow M 6 1 (fun _ => 1000)]
          exact ih (i + 1) _ (by omega)
  refine r_iconst hR (nI 0) (by decide) dX6_goDay_0 ?_
  refine r_istore4 hR (fun _ h => by first | (cases h; rfl) | exact absurd h (by simp)) dX6_goDay_1 ?_
  refine r_mem (putR_z M 6 1 (fun _ => 1000)).symm ?_
  exact L1 36 0 _ rfl

set_option maxHeartbeats 4000000 in
set_option maxRecDepth 100000 in
theorem t_X6_reached {G : gG} {M : gM} {K : Nat → Nat} (hK : ∀ j, j < 36 → M.1 6 0 j = nI (K j)) (hKb : ∀ j, K j ≤ 1000) : Cf G mX6_reached 0 [.ref (ad G 5 0)] M (some (.long (lN (reaP 1000 K 36)))) M := by
  refine Ct.of (by decide +kernel) (k := 3) (ls0 := [some (.ref (ad G 5 0)), none, none, none]) rfl rfl (fun _ _ => trivial) ?_
  intro P hR
  have L : ∀ (j i : Nat), i + j = 36 → P 4 [some (.ref (ad G 5 0)), some (.long (lN (reaP 1000 K i))), none, some (.int (nI i))] [] M := by
    intro j
    induction j with
    | zero =>
      intro i  hij 
      refine r_iload3 hR dX6_reached_4 ?_
      refine r_bipush hR (nI 36) (by decide) dX6_reached_5 ?_
      refine r_icmp_ge hR 34 dX6_reached_7 (by decide) (fun c7 => ?_) (fun c7 => ?_)
      · try simp (disch := omega) only [nI_ltI, nI_leI, nI_eq, bI_0, Decidable.not_not, lc_lt, lc_gt, lc_ge, lc_le, lc_eq, i64_toInt] at c7
        try simp (disch := omega) only [cv_lt, cv_le, cv_eq, nI_toInt, cv_0] at c7
        first
        | omega
        | refine r_lload1 hR dX6_reached_34 ?_
          refine r_lret hR dX6_reached_35 ?_
          obtain rfl : i = 36 := by omega
          exact ⟨rfl, rfl⟩
      · try simp (disch := omega) only [nI_ltI, nI_leI, nI_eq, bI_0, Decidable.not_not, lc_lt, lc_gt, lc_ge, lc_le, lc_eq, i64_toInt] at c7
        try simp (disch := omega) only [cv_lt, cv_le, cv_eq, nI_toInt, cv_0] at c7
        first
        | omega
        | refine r_aload0 hR dX6_reached_10 ?_
          refine r_get hR (by first | decide | assumption | (simp only [gcnt_4, gcnt_1, gcnt_2, gcnt_3, gcnt_12, gcnt_13, gcnt_16]; omega)) fl_X6_9 rfl rfl dX6_reached_11 ?_
          refine r_iload3 hR dX6_reached_14 ?_
          refine r_iald hR (by first | decide | assumption | (simp only [gcnt_4, gcnt_1, gcnt_2, gcnt_3, gcnt_12, gcnt_13, gcnt_16]; omega)) rfl rfl (by omega) (by decide) dX6_reached_15 ?_
          rw [hK i (by omega)]
          have hKi := hKb i
          refine r_sipush hR (nI 1000) (by decide) dX6_reached_16 ?_
          refine r_icmp_ge hR 28 dX6_reached_19 (by decide) (fun c19 => ?_) (fun c19 => ?_)
          · try simp (disch := omega) only [nI_ltI, nI_leI, nI_eq, bI_0, Decidable.not_not, lc_lt, lc_gt, lc_ge, lc_le, lc_eq, i64_toInt] at c19
            try simp (disch := omega) only [cv_lt, cv_le, cv_eq, nI_toInt, cv_0] at c19
            first
            | omega
            | refine r_iinc3 hR (nI 1) (by decide) (fun _ h => by first | (cases h; rfl) | exact absurd h (by simp)) dX6_reached_28 ?_
              try rw [nI_add]
              refine r_goto hR 4 dX6_reached_31 (by decide) ?_
              omega
          · try simp (disch := omega) only [nI_ltI, nI_leI, nI_eq, bI_0, Decidable.not_not, lc_lt, lc_gt, lc_ge, lc_le, lc_eq, i64_toInt] at c19
            try simp (disch := omega) only [cv_lt, cv_le, cv_eq, nI_toInt, cv_0] at c19
            first
            | omega
            | refine r_lload1 hR dX6_reached_22 ?_
              refine r_lconst hR 1 (by decide) dX6_reached_23 ?_
              refine r_iload3 hR dX6_reached_24 ?_
              refine r_lshl hR dX6_reached_25 ?_
              refine r_lor hR dX6_reached_26 ?_
              rw [shlL_t i (by omega), nx_orL]
              refine r_lstore1 hR (fun _ h => by first | (cases h; rfl) | exact absurd h (by simp)) dX6_reached_27 ?_
              refine r_iinc3 hR (nI 1) (by decide) (fun _ h => by first | (cases h; rfl) | exact absurd h (by simp)) dX6_reached_28 ?_
              try rw [nI_add]
              refine r_goto hR 4 dX6_reached_31 (by decide) ?_
              omega
    | succ j ih =>
      intro i  hij 
      refine r_iload3 hR dX6_reached_4 ?_
      refine r_bipush hR (nI 36) (by decide) dX6_reached_5 ?_
      refine r_icmp_ge hR 34 dX6_reached_7 (by decide) (fun c7 => ?_) (fun c7 => ?_)
      · try simp (disch := omega) only [nI_ltI, nI_leI, nI_eq, bI_0, Decidable.not_not, lc_lt, lc_gt, lc_ge, lc_le, lc_eq, i64_toInt] at c7
        try simp (disch := omega) only [cv_lt, cv_le, cv_eq, nI_toInt, cv_0] at c7
        first
        | omega
        | refine r_lload1 hR dX6_reached_34 ?_
          refine r_lret hR dX6_reached_35 ?_
          obtain rfl : i = 36 := by omega
          exact ⟨rfl, rfl⟩
      · try simp (disch := omega) only [nI_ltI, nI_leI, nI_eq, bI_0, Decidable.not_not, lc_lt, lc_gt, lc_ge, lc_le, lc_eq, i64_toInt] at c7
        try simp (disch := omega) only [cv_lt, cv_le, cv_eq, nI_toInt, cv_0] at c7
        first
        | omega
        | refine r_aload0 hR dX6_reached_10 ?_
          refine r_get hR (by first | decide | assumption | (simp only [gcnt_4, gcnt_1, gcnt_2, gcnt_3, gcnt_12, gcnt_13, gcnt_16]; omega)) fl_X6_9 rfl rfl dX6_reached_11 ?_
          refine r_iload3 hR dX6_reached_14 ?_
          refine r_iald hR (by first | decide | assumption | (simp only [gcnt_4, gcnt_1, gcnt_2, gcnt_3, gcnt_12, gcnt_13, gcnt_16]; omega)) rfl rfl (by omega) (by decide) dX6_reached_15 ?_
          rw [hK i (by omega)]
          have hKi := hKb i
          refine r_sipush hR (nI 1000) (by decide) dX6_reached_16 ?_
          refine r_icmp_ge hR 28 dX6_reached_19 (by decide) (fun c19 => ?_) (fun c19 => ?_)
          · try simp (disch := omega) only [nI_ltI, nI_leI, nI_eq, bI_0, Decidable.not_not, lc_lt, lc_gt, lc_ge, lc_le, lc_eq, i64_toInt] at c19
            try simp (disch := omega) only [cv_lt, cv_le, cv_eq, nI_toInt, cv_0] at c19
            first
            | omega
            | refine r_iinc3 hR (nI 1) (by decide) (fun _ h => by first | (cases h; rfl) | exact absurd h (by simp)) dX6_reached_28 ?_
              try rw [nI_add]
              refine r_goto hR 4 dX6_reached_31 (by decide) ?_
              have e : reaP 1000 K (i + 1) = reaP 1000 K i ||| (if K i < 1000 then 2 ^ i else 0) := rfl
              first
              | (rw [if_pos (by omega)] at e; rw [← e]; exact ih (i + 1) (by omega))
              | (rw [if_neg (by omega), Nat.or_zero] at e; rw [← e]; exact ih (i + 1) (by omega))
          · try simp (disch := omega) only [nI_ltI, nI_leI, nI_eq, bI_0, Decidable.not_not, lc_lt, lc_gt, lc_ge, lc_le, lc_eq, i64_toInt] at c19
            try simp (disch := omega) only [cv_lt, cv_le, cv_eq, nI_toInt, cv_0] at c19
            first
            | omega
            | refine r_lload1 hR dX6_reached_22 ?_
              refine r_lconst hR 1 (by decide) dX6_reached_23 ?_
              refine r_iload3 hR dX6_reached_24 ?_
              refine r_lshl hR dX6_reached_25 ?_
              refine r_lor hR dX6_reached_26 ?_
              rw [shlL_t i (by omega), nx_orL]
              refine r_lstore1 hR (fun _ h => by first | (cases h; rfl) | exact absurd h (by simp)) dX6_reached_27 ?_
              refine r_iinc3 hR (nI 1) (by decide) (fun _ h => by first | (cases h; rfl) | exact absurd h (by simp)) dX6_reached_28 ?_
              try rw [nI_add]
              refine r_goto hR 4 dX6_reached_31 (by decide) ?_
              have e : reaP 1000 K (i + 1) = reaP 1000 K i ||| (if K i < 1000 then 2 ^ i else 0) := rfl
              first
              | (rw [if_pos (by omega)] at e; rw [← e]; exact ih (i + 1) (by omega))
              | (rw [if_neg (by omega), Nat.or_zero] at e; rw [← e]; exact ih (i + 1) (by omega))
  refine r_lconst hR (lN 0) (by decide) dX6_reached_0 ?_
  refine r_lstore1 hR (fun _ h => by first | (cases h; rfl) | exact absurd h (by simp)) dX6_reached_1 ?_
  refine r_iconst hR (nI 0) (by decide) dX6_reached_2 ?_
  refine r_istore3 hR (fun _ h => by first | (cases h; rfl) | exact absurd h (by simp)) dX6_reached_3 ?_
  exact L 36 0 rfl

set_option maxHeartbeats 4000000 in
set_option maxRecDepth 100000 in
theorem t_X2_isMissing {G : gG} {M : gM} {s b : Nat} (hs4 : s < 4) (hb : M.1 12 s 0 = nI b) (hb9 : b < 100) : Cf G mX2_isMissing 0 [.ref (ad G 12 s)] M (some (.int (bI (b = 0)))) M := by
  refine Ct.of (by decide +kernel) (k := 0) (ls0 := [some (.ref (ad G 12 s))]) rfl rfl (fun _ _ => trivial) ?_
  intro P hR
  refine r_aload0 hR dX2_isMissing_0 ?_
  refine r_get hR (by first | decide | assumption | (simp only [gcnt_4, gcnt_1, gcnt_2, gcnt_3, gcnt_12, gcnt_13, gcnt_16]; omega)) fl_X2_9 rfl rfl dX2_isMissing_1 ?_
  try simp only [hb]
  refine r_if_ne hR 11 dX2_isMissing_4 (by decide) (fun c4 => ?_) (fun c4 => ?_)
  · try simp (disch := omega) only [nI_ltI, nI_leI, nI_eq, bI_0, Decidable.not_not, lc_lt, lc_gt, lc_ge, lc_le, lc_eq, i64_toInt] at c4
    try simp (disch := omega) only [cv_lt, cv_le, cv_eq, nI_toInt, cv_0] at c4
    first
    | omega
    | refine r_iconst hR (nI 0) (by decide) dX2_isMissing_11 ?_
      refine r_zret hR dX2_isMissing_12 rfl ?_
      refine ⟨?_, rfl⟩
      first | (rw [bI_t]; omega) | (rw [bI_f]; omega)
  · try simp (disch := omega) only [nI_ltI, nI_leI, nI_eq, bI_0, Decidable.not_not, lc_lt, lc_gt, lc_ge, lc_le, lc_eq, i64_toInt] at c4
    try simp (disch := omega) only [cv_lt, cv_le, cv_eq, nI_toInt, cv_0] at c4
    first
    | omega
    | refine r_iconst hR (nI 1) (by decide) dX2_isMissing_7 ?_
      refine r_goto hR 12 dX2_isMissing_8 (by decide) ?_
      refine r_zret hR dX2_isMissing_12 rfl ?_
      refine ⟨?_, rfl⟩
      first | (rw [bI_t]; omega) | (rw [bI_f]; omega)

set_option maxHeartbeats 4000000 in
set_option maxRecDepth 100000 in
theorem t_X2_spans {G : gG} {M : gM} {s n : Nat} (hs4 : s < 4) {x y : Int32} (hn : M.1 12 s 1 = nI n) (hn4 : n ≤ 40) : Cf G mX2_spans 0 [.ref (ad G 12 s), .int x, .int y] M (some (.int (bI (0 ≤ x.toInt ∧ 0 ≤ y.toInt ∧ x.toInt + y.toInt ≤ n)))) M := by
  refine Ct.of (by decide +kernel) (k := 0) (ls0 := [some (.ref (ad G 12 s)), some (.int x), some (.int y)]) rfl rfl (fun _ _ => trivial) ?_
  intro P hR
  refine r_iload1 hR dX2_spans_0 ?_
  refine r_if_lt hR 30 dX2_spans_1 (by decide) (fun c1 => ?_) (fun c1 => ?_)
  · try simp (disch := omega) only [nI_ltI, nI_leI, nI_eq, bI_0, Decidable.not_not, lc_lt, lc_gt, lc_ge, lc_le, lc_eq, i64_toInt] at c1
    try simp (disch := omega) only [cv_lt, cv_le, cv_eq, nI_toInt, cv_0] at c1
    first
    | omega
    | refine r_iconst hR (nI 0) (by decide) dX2_spans_30 ?_
      refine r_zret hR dX2_spans_31 rfl ?_
      refine ⟨?_, rfl⟩
      try rw [nI_toInt (by omega)]
      first | (rw [bI_t]; omega) | (rw [bI_f]; omega)
  · try simp (disch := omega) only [nI_ltI, nI_leI, nI_eq, bI_0, Decidable.not_not, lc_lt, lc_gt, lc_ge, lc_le, lc_eq, i64_toInt] at c1
    try simp (disch := omega) only [cv_lt, cv_le, cv_eq, nI_toInt, cv_0] at c1
    first
    | omega
    | refine r_iload2 hR dX2_spans_4 ?_
      refine r_if_lt hR 30 dX2_spans_5 (by decide) (fun c5 => ?_) (fun c5 => ?_)
      · try simp (disch := omega) only [nI_ltI, nI_leI, nI_eq, bI_0, Decidable.not_not, lc_lt, lc_gt, lc_ge, lc_le, lc_eq, i64_toInt] at c5
        try simp (disch := omega) only [cv_lt, cv_le, cv_eq, nI_toInt, cv_0] at c5
        first
        | omega
        | refine r_iconst hR (nI 0) (by decide) dX2_spans_30 ?_
          refine r_zret hR dX2_spans_31 rfl ?_
          refine ⟨?_, rfl⟩
          try rw [nI_toInt (by omega)]
          first | (rw [bI_t]; omega) | (rw [bI_f]; omega)
      · try simp (disch := omega) only [nI_ltI, nI_leI, nI_eq, bI_0, Decidable.not_not, lc_lt, lc_gt, lc_ge, lc_le, lc_eq, i64_toInt] at c5
        try simp (disch := omega) only [cv_lt, cv_le, cv_eq, nI_toInt, cv_0] at c5
        first
        | omega
        | refine r_iload2 hR dX2_spans_8 ?_
          refine r_aload0 hR dX2_spans_9 ?_
          refine r_get hR (by first | decide | assumption | (simp only [gcnt_4, gcnt_1, gcnt_2, gcnt_3, gcnt_12, gcnt_13, gcnt_16]; omega)) fl_X2_15 rfl rfl dX2_spans_10 ?_
          try simp only [hn]
          refine r_icmp_gt hR 30 dX2_spans_13 (by decide) (fun c13 => ?_) (fun c13 => ?_)
          · try simp (disch := omega) only [nI_ltI, nI_leI, nI_eq, bI_0, Decidable.not_not, lc_lt, lc_gt, lc_ge, lc_le, lc_eq, i64_toInt] at c13
            try simp (disch := omega) only [cv_lt, cv_le, cv_eq, nI_toInt, cv_0] at c13
            first
            | omega
            | refine r_iconst hR (nI 0) (by decide) dX2_spans_30 ?_
              refine r_zret hR dX2_spans_31 rfl ?_
              refine ⟨?_, rfl⟩
              try rw [nI_toInt (by omega)]
              first | (rw [bI_t]; omega) | (rw [bI_f]; omega)
          · try simp (disch := omega) only [nI_ltI, nI_leI, nI_eq, bI_0, Decidable.not_not, lc_lt, lc_gt, lc_ge, lc_le, lc_eq, i64_toInt] at c13
            try simp (disch := omega) only [cv_lt, cv_le, cv_eq, nI_toInt, cv_0] at c13
            first
            | omega
            | refine r_iload1 hR dX2_spans_16 ?_
              refine r_aload0 hR dX2_spans_17 ?_
              refine r_get hR (by first | decide | assumption | (simp only [gcnt_4, gcnt_1, gcnt_2, gcnt_3, gcnt_12, gcnt_13, gcnt_16]; omega)) fl_X2_15 rfl rfl dX2_spans_18 ?_
              try simp only [hn]
              refine r_iload2 hR dX2_spans_21 ?_
              obtain ⟨n2, hn2, rfl⟩ := of_in (x := y) (N := n) ⟨by omega, by omega⟩
              refine r_isubN hR hn2 dX2_spans_22 ?_
              refine r_icmp_gt hR 30 dX2_spans_23 (by decide) (fun c23 => ?_) (fun c23 => ?_)
              · try simp (disch := omega) only [nI_ltI, nI_leI, nI_eq, bI_0, Decidable.not_not, lc_lt, lc_gt, lc_ge, lc_le, lc_eq, i64_toInt] at c23
                try simp (disch := omega) only [cv_lt, cv_le, cv_eq, nI_toInt, cv_0] at c23
                first
                | omega
                | refine r_iconst hR (nI 0) (by decide) dX2_spans_30 ?_
                  refine r_zret hR dX2_spans_31 rfl ?_
                  refine ⟨?_, rfl⟩
                  try rw [nI_toInt (by omega)]
                  first | (rw [bI_t]; omega) | (rw [bI_f]; omega)
              · try simp (disch := omega) only [nI_ltI, nI_leI, nI_eq, bI_0, Decidable.not_not, lc_lt, lc_gt, lc_ge, lc_le, lc_eq, i64_toInt] at c23
                try simp (disch := omega) only [cv_lt, cv_le, cv_eq, nI_toInt, cv_0] at c23
                first
                | omega
                | refine r_iconst hR (nI 1) (by decide) dX2_spans_26 ?_
                  refine r_goto hR 31 dX2_spans_27 (by decide) ?_
                  refine r_zret hR dX2_spans_31 rfl ?_
                  refine ⟨?_, rfl⟩
                  try rw [nI_toInt (by omega)]
                  first | (rw [bI_t]; omega) | (rw [bI_f]; omega)

set_option maxHeartbeats 4000000 in
set_option maxRecDepth 100000 in
theorem t_X2_lowest {G : gG} {M : gM} {s b : Nat} (hs4 : s < 4) {v : Int64} (hb : M.1 12 s 0 = nI b) (hb9 : b < 100) : Cf G mX2_lowest 0 [.ref (ad G 12 s), .long v] M (some (.long (cutB b v))) M := by
  refine Ct.of (by decide +kernel) (k := 0) (ls0 := [some (.ref (ad G 12 s)), some (.long v), none]) rfl rfl (fun _ _ => trivial) ?_
  intro P hR
  refine r_aload0 hR dX2_lowest_0 ?_
  refine r_get hR (by first | decide | assumption | (simp only [gcnt_4, gcnt_1, gcnt_2, gcnt_3, gcnt_12, gcnt_13, gcnt_16]; omega)) fl_X2_9 rfl rfl dX2_lowest_1 ?_
  try simp only [hb]
  refine r_bipush hR (nI 8) (by decide) dX2_lowest_4 ?_
  refine r_icmp_ne hR 14 dX2_lowest_6 (by decide) (fun c6 => ?_) (fun c6 => ?_)
  · try simp (disch := omega) only [nI_ltI, nI_leI, nI_eq, bI_0, Decidable.not_not, lc_lt, lc_gt, lc_ge, lc_le, lc_eq, i64_toInt] at c6
    try simp (disch := omega) only [cv_lt, cv_le, cv_eq, nI_toInt, cv_0] at c6
    first
    | omega
    | refine r_aload0 hR dX2_lowest_14 ?_
      refine r_get hR (by first | decide | assumption | (simp only [gcnt_4, gcnt_1, gcnt_2, gcnt_3, gcnt_12, gcnt_13, gcnt_16]; omega)) fl_X2_9 rfl rfl dX2_lowest_15 ?_
      try simp only [hb]
      refine r_bipush hR (nI 16) (by decide) dX2_lowest_18 ?_
      refine r_icmp_ne hR 30 dX2_lowest_20 (by decide) (fun c20 => ?_) (fun c20 => ?_)
      · try simp (disch := omega) only [nI_ltI, nI_leI, nI_eq, bI_0, Decidable.not_not, lc_lt, lc_gt, lc_ge, lc_le, lc_eq, i64_toInt] at c20
        try simp (disch := omega) only [cv_lt, cv_le, cv_eq, nI_toInt, cv_0] at c20
        first
        | omega
        | refine r_lload1 hR dX2_lowest_30 ?_
          refine r_lret hR dX2_lowest_31 ?_
          refine ⟨congrArg (fun z => some (Value.long z)) ?_, rfl⟩
          unfold cutB
          (repeat' split) <;> first | rfl | omega
      · try simp (disch := omega) only [nI_ltI, nI_leI, nI_eq, bI_0, Decidable.not_not, lc_lt, lc_gt, lc_ge, lc_le, lc_eq, i64_toInt] at c20
        try simp (disch := omega) only [cv_lt, cv_le, cv_eq, nI_toInt, cv_0] at c20
        first
        | omega
        | refine r_lload1 hR dX2_lowest_23 ?_
          refine r_l2i hR dX2_lowest_24 ?_
          refine r_i2s hR dX2_lowest_25 ?_
          refine r_i2l hR dX2_lowest_26 ?_
          refine r_goto hR 31 dX2_lowest_27 (by decide) ?_
          refine r_lret hR dX2_lowest_31 ?_
          refine ⟨congrArg (fun z => some (Value.long z)) ?_, rfl⟩
          unfold cutB
          (repeat' split) <;> first | rfl | omega
  · try simp (disch := omega) only [nI_ltI, nI_leI, nI_eq, bI_0, Decidable.not_not, lc_lt, lc_gt, lc_ge, lc_le, lc_eq, i64_toInt] at c6
    try simp (disch := omega) only [cv_lt, cv_le, cv_eq, nI_toInt, cv_0] at c6
    first
    | omega
    | refine r_lload1 hR dX2_lowest_9 ?_
      refine r_l2i hR dX2_lowest_10 ?_
      refine r_i2b hR dX2_lowest_11 ?_
      refine r_i2l hR dX2_lowest_12 ?_
      refine r_lret hR dX2_lowest_13 ?_
      refine ⟨congrArg (fun z => some (Value.long z)) ?_, rfl⟩
      unfold cutB
      (repeat' split) <;> first | rfl | omega

set_option maxHeartbeats 4000000 in
set_option maxRecDepth 100000 in
theorem t_X2_put {G : gG} {M : gM} {s b n : Nat} (hs4 : s < 4) {v : Int64} {i : Nat} (hb : M.1 12 s 0 = nI b) (hb9 : b < 100) (hn : M.1 12 s 1 = nI n) (hn4 : n ≤ 40) (hi : i < n) : Cf G mX2_put 1 [.ref (ad G 12 s), .int (nI i), .long v] M none (setl M 13 s i (cutB b v)) := by
  refine Ct.of (by decide +kernel) (k := 0) (ls0 := [some (.ref (ad G 12 s)), some (.int (nI i)), some (.long v), none]) rfl rfl (fun _ _ => trivial) ?_
  intro P hR
  refine r_iload1 hR dX2_put_0 ?_
  refine r_if_lt hR 23 dX2_put_1 (by decide) (fun c1 => ?_) (fun c1 => ?_)
  · try simp (disch := omega) only [nI_ltI, nI_leI, nI_eq, bI_0, Decidable.not_not, lc_lt, lc_gt, lc_ge, lc_le, lc_eq, i64_toInt] at c1
    try simp (disch := omega) only [cv_lt, cv_le, cv_eq, nI_toInt, cv_0] at c1
    first
    | omega
    | refine r_vret hR dX2_put_23 ?_
      first | exact ⟨rfl, rfl⟩ | omega
  · try simp (disch := omega) only [nI_ltI, nI_leI, nI_eq, bI_0, Decidable.not_not, lc_lt, lc_gt, lc_ge, lc_le, lc_eq, i64_toInt] at c1
    try simp (disch := omega) only [cv_lt, cv_le, cv_eq, nI_toInt, cv_0] at c1
    first
    | omega
    | refine r_iload1 hR dX2_put_4 ?_
      refine r_aload0 hR dX2_put_5 ?_
      refine r_get hR (by first | decide | assumption | (simp only [gcnt_4, gcnt_1, gcnt_2, gcnt_3, gcnt_12, gcnt_13, gcnt_16]; omega)) fl_X2_15 rfl rfl dX2_put_6 ?_
      try simp only [hn]
      refine r_icmp_ge hR 23 dX2_put_9 (by decide) (fun c9 => ?_) (fun c9 => ?_)
      · try simp (disch := omega) only [nI_ltI, nI_leI, nI_eq, bI_0, Decidable.not_not, lc_lt, lc_gt, lc_ge, lc_le, lc_eq, i64_toInt] at c9
        try simp (disch := omega) only [cv_lt, cv_le, cv_eq, nI_toInt, cv_0] at c9
        first
        | omega
        | refine r_vret hR dX2_put_23 ?_
          first | exact ⟨rfl, rfl⟩ | omega
      · try simp (disch := omega) only [nI_ltI, nI_leI, nI_eq, bI_0, Decidable.not_not, lc_lt, lc_gt, lc_ge, lc_le, lc_eq, i64_toInt] at c9
        try simp (disch := omega) only [cv_lt, cv_le, cv_eq, nI_toInt, cv_0] at c9
        first
        | omega
        | refine r_aload0 hR dX2_put_12 ?_
          refine r_get hR (by first | decide | assumption | (simp only [gcnt_4, gcnt_1, gcnt_2, gcnt_3, gcnt_12, gcnt_13, gcnt_16]; omega)) fl_X2_18 rfl rfl dX2_put_13 ?_
          try simp only [hn]
          refine r_iload1 hR dX2_put_16 ?_
          refine r_aload0 hR dX2_put_17 ?_
          refine r_lload2 hR dX2_put_18 ?_
          refine r_cv1v hR kv_X2_22 (by decide) (t_X2_lowest hs4 hb hb9) (by first | decide | assumption | (simp only [gcnt_4, gcnt_1, gcnt_2, gcnt_3, gcnt_12, gcnt_13, gcnt_16]; omega)) rfl rfl (Nat.le_of_ble_eq_true rfl) dX2_put_19 ?_
          refine r_last hR (by first | decide | assumption | (simp only [gcnt_4, gcnt_1, gcnt_2, gcnt_3, gcnt_12, gcnt_13, gcnt_16]; omega)) (fun _ => rfl) rfl (by omega) (by decide) dX2_put_22 ?_
          refine r_vret hR dX2_put_23 ?_
          first | exact ⟨rfl, rfl⟩ | omega

set_option maxHeartbeats 4000000 in
set_option maxRecDepth 100000 in
theorem t_X2_begin {G : gG} {M : gM} {s b n : Nat} (hs4 : s < 4) : Cf G mX2_begin 0 [.ref (ad G 12 s), .int (nI b), .int (nI n)] M none (putL (seti (seti M 12 s 0 (nI b)) 12 s 1 (nI n)) 13 s (fun _ => 0) 40) := by
  refine Ct.of (by decide +kernel) (k := 1) (ls0 := [some (.ref (ad G 12 s)), some (.int (nI b)), some (.int (nI n)), none]) rfl rfl (fun _ _ => trivial) ?_
  intro P hR
  have L : ∀ (j i : Nat), i + j = 40 → P 12 [some (.ref (ad G 12 s)), some (.int (nI b)), some (.int (nI n)), some (.int (nI i))] [] (putL (seti (seti M 12 s 0 (nI b)) 12 s 1 (nI n)) 13 s (fun _ => 0) i) := by
    intro j
    induction j with
    | zero =>
      intro i  hij 
      refine r_iload3 hR dX2_begin_12 ?_
      refine r_bipush hR (nI 40) (by decide) dX2_begin_13 ?_
      refine r_icmp_ge hR 31 dX2_begin_15 (by decide) (fun c15 => ?_) (fun c15 => ?_)
      · try simp (disch := omega) only [nI_ltI, nI_leI, nI_eq, bI_0, Decidable.not_not, lc_lt, lc_gt, lc_ge, lc_le, lc_eq, i64_toInt] at c15
        try simp (disch := omega) only [cv_lt, cv_le, cv_eq, nI_toInt, cv_0] at c15
        first
        | omega
        | refine r_vret hR dX2_begin_31 ?_
          obtain rfl : i = 40 := by omega
          exact ⟨rfl, rfl⟩
      · try simp (disch := omega) only [nI_ltI, nI_leI, nI_eq, bI_0, Decidable.not_not, lc_lt, lc_gt, lc_ge, lc_le, lc_eq, i64_toInt] at c15
        try simp (disch := omega) only [cv_lt, cv_le, cv_eq, nI_toInt, cv_0] at c15
        first
        | omega
        | refine r_aload0 hR dX2_begin_18 ?_
          refine r_get hR (by first | decide | assumption | (simp only [gcnt_4, gcnt_1, gcnt_2, gcnt_3, gcnt_12, gcnt_13, gcnt_16]; omega)) fl_X2_18 rfl rfl dX2_begin_19 ?_
          refine r_iload3 hR dX2_begin_22 ?_
          refine r_lconst hR 0 (by decide) dX2_begin_23 ?_
          refine r_last hR (by first | decide | assumption | (simp only [gcnt_4, gcnt_1, gcnt_2, gcnt_3, gcnt_12, gcnt_13, gcnt_16]; omega)) (fun _ => rfl) rfl (by omega) (by decide) dX2_begin_24 ?_
          refine r_iinc3 hR (nI 1) (by decide) (fun _ h => by first | (cases h; rfl) | exact absurd h (by simp)) dX2_begin_25 ?_
          try rw [nI_add]
          refine r_goto hR 12 dX2_begin_28 (by decide) ?_
          omega
    | succ j ih =>
      intro i  hij 
      refine r_iload3 hR dX2_begin_12 ?_
      refine r_bipush hR (nI 40) (by decide) dX2_begin_13 ?_
      refine r_icmp_ge hR 31 dX2_begin_15 (by decide) (fun c15 => ?_) (fun c15 => ?_)
      · try simp (disch := omega) only [nI_ltI, nI_leI, nI_eq, bI_0, Decidable.not_not, lc_lt, lc_gt, lc_ge, lc_le, lc_eq, i64_toInt] at c15
        try simp (disch := omega) only [cv_lt, cv_le, cv_eq, nI_toInt, cv_0] at c15
        first
        | omega
        | refine r_vret hR dX2_begin_31 ?_
          obtain rfl : i = 40 := by omega
          exact ⟨rfl, rfl⟩
      · try simp (disch := omega) only [nI_ltI, nI_leI, nI_eq, bI_0, Decidable.not_not, lc_lt, lc_gt, lc_ge, lc_le, lc_eq, i64_toInt] at c15
        try simp (disch := omega) only [cv_lt, cv_le, cv_eq, nI_toInt, cv_0] at c15
        first
        | omega
        | refine r_aload0 hR dX2_begin_18 ?_
          refine r_get hR (by first | decide | assumption | (simp only [gcnt_4, gcnt_1, gcnt_2, gcnt_3, gcnt_12, gcnt_13, gcnt_16]; omega)) fl_X2_18 rfl rfl dX2_begin_19 ?_
          refine r_iload3 hR dX2_begin_22 ?_
          refine r_lconst hR 0 (by decide) dX2_begin_23 ?_
          refine r_last hR (by first | decide | assumption | (simp only [gcnt_4, gcnt_1, gcnt_2, gcnt_3, gcnt_12, gcnt_13, gcnt_16]; omega)) (fun _ => rfl) rfl (by omega) (by decide) dX2_begin_24 ?_
          refine r_iinc3 hR (nI 1) (by decide) (fun _ h => by first | (cases h; rfl) | exact absurd h (by simp)) dX2_begin_25 ?_
          try rw [nI_add]
          refine r_goto hR 12 dX2_begin_28 (by decide) ?_
          rw [putL_grow _ 13 s (fun _ => 0)]
          exact ih (i + 1) (by omega)
  refine r_aload0 hR dX2_begin_0 ?_
  refine r_iload1 hR dX2_begin_1 ?_
  refine r_puti hR (by first | decide | assumption | (simp only [gcnt_4, gcnt_1, gcnt_2, gcnt_3, gcnt_12, gcnt_13, gcnt_16]; omega)) fp_X2_9 rfl rfl (Nat.le_of_ble_eq_true rfl) rfl rfl dX2_begin_2 ?_
  refine r_aload0 hR dX2_begin_5 ?_
  refine r_iload2 hR dX2_begin_6 ?_
  refine r_puti hR (by first | decide | assumption | (simp only [gcnt_4, gcnt_1, gcnt_2, gcnt_3, gcnt_12, gcnt_13, gcnt_16]; omega)) fp_X2_15 rfl rfl (Nat.le_of_ble_eq_true rfl) rfl rfl dX2_begin_7 ?_
  refine r_iconst hR (nI 0) (by decide) dX2_begin_10 ?_
  refine r_istore3 hR (fun _ h => by first | (cases h; rfl) | exact absurd h (by simp)) dX2_begin_11 ?_
  refine r_mem (putL_z _ 13 s (fun _ => 0)).symm ?_
  exact L 40 0 rfl

set_option maxHeartbeats 4000000 in
set_option maxRecDepth 100000 in
theorem t_X3_put {G : gG} {M : gM} {l : Nat} {v : Int32} (hl : M.1 8 0 1 = nI l) (hl2 : l < 120) : Cf G mX3_put 0 [.ref (ad G 8 0), .int v] M none (seti (seti M 9 0 l v) 8 0 1 (nI (l + 1))) := by
  refine Ct.of (by decide +kernel) (k := 0) (ls0 := [some (.ref (ad G 8 0)), some (.int v)]) rfl rfl (fun _ _ => trivial) ?_
  intro P hR
  refine r_aload0 hR dX3_put_0 ?_
  refine r_get hR (by first | decide | assumption | (simp only [gcnt_4, gcnt_1, gcnt_2, gcnt_3, gcnt_12, gcnt_13, gcnt_16]; omega)) fl_X3_15 rfl rfl dX3_put_1 ?_
  try simp only [hl]
  refine r_bipush hR (nI 120) (by decide) dX3_put_4 ?_
  refine r_icmp_ge hR 29 dX3_put_6 (by decide) (fun c6 => ?_) (fun c6 => ?_)
  · try simp (disch := omega) only [nI_ltI, nI_leI, nI_eq, bI_0, Decidable.not_not, lc_lt, lc_gt, lc_ge, lc_le, lc_eq, i64_toInt] at c6
    try simp (disch := omega) only [cv_lt, cv_le, cv_eq, nI_toInt, cv_0] at c6
    first
    | omega
    | refine r_vret hR dX3_put_29 ?_
      first | exact ⟨rfl, rfl⟩ | omega
  · try simp (disch := omega) only [nI_ltI, nI_leI, nI_eq, bI_0, Decidable.not_not, lc_lt, lc_gt, lc_ge, lc_le, lc_eq, i64_toInt] at c6
    try simp (disch := omega) only [cv_lt, cv_le, cv_eq, nI_toInt, cv_0] at c6
    first
    | omega
    | refine r_aload0 hR dX3_put_9 ?_
      refine r_get hR (by first | decide | assumption | (simp only [gcnt_4, gcnt_1, gcnt_2, gcnt_3, gcnt_12, gcnt_13, gcnt_16]; omega)) fl_X3_9 rfl rfl dX3_put_10 ?_
      try simp only [hl]
      refine r_aload0 hR dX3_put_13 ?_
      refine r_get hR (by first | decide | assumption | (simp only [gcnt_4, gcnt_1, gcnt_2, gcnt_3, gcnt_12, gcnt_13, gcnt_16]; omega)) fl_X3_15 rfl rfl dX3_put_14 ?_
      try simp only [hl]
      refine r_iload1 hR dX3_put_17 ?_
      refine r_iast hR (by first | decide | assumption | (simp only [gcnt_4, gcnt_1, gcnt_2, gcnt_3, gcnt_12, gcnt_13, gcnt_16]; omega)) (fun _ => rfl) rfl (by omega) (by decide) dX3_put_18 ?_
      refine r_aload0 hR dX3_put_19 ?_
      refine r_dup hR rfl dX3_put_20 ?_
      refine r_get hR (by first | decide | assumption | (simp only [gcnt_4, gcnt_1, gcnt_2, gcnt_3, gcnt_12, gcnt_13, gcnt_16]; omega)) fl_X3_15 rfl rfl dX3_put_21 ?_
      try simp only [hl]
      refine r_nm (nI l) (by simp [seti_r, hl]) ?_
      refine r_iconst hR (nI 1) (by decide) dX3_put_24 ?_
      refine r_iadd hR dX3_put_25 ?_
      try rw [nI_add]
      refine r_puti hR (by first | decide | assumption | (simp only [gcnt_4, gcnt_1, gcnt_2, gcnt_3, gcnt_12, gcnt_13, gcnt_16]; omega)) fp_X3_15 rfl rfl (Nat.le_of_ble_eq_true rfl) rfl rfl dX3_put_26 ?_
      refine r_vret hR dX3_put_29 ?_
      first | exact ⟨rfl, rfl⟩ | omega

