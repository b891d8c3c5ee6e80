set_option maxHeartbeats 4000000 in
set_option maxRecDepth 100000 in
theorem t_X1_has {G : gG} {M : gM} {q : Nat} {S : Nat → Nat} (hq : q < 3) (h : seaP M q S) {x : Int32} (hn : S 3 ≤ 8) : Cf G mX1_has 0 [.ref (ad G 1 q), .int x] M (some (.int (bI (0 ≤ x.toInt ∧ x.toInt < S 3)))) M := by
  obtain ⟨h0, h2, h3, h4, hr, ht⟩ := id h
  refine Ct.of (by decide +kernel) (k := 0) (ls0 := [some (.ref (ad G 1 q)), some (.int x)]) rfl rfl (fun _ _ => trivial) ?_
  intro P hR
  refine r_iload1 hR dX1_has_0 ?_
  refine r_if_lt hR 16 dX1_has_1 (by decide) (fun c1 => ?_) (fun c1 => ?_)
  · try simp (disch := omega) only [nI_ltI, nI_leI, nI_eq, bI_0, Decidable.not_not, lc_lt, lc_gt, lc_ge, lc_le, lc_eq, i64_toInt] at c1
    try simp (disch := omega) only [cv_lt, cv_le, cv_eq, nI_toInt, cv_0] at c1
    first
    | omega
    | refine r_iconst hR (nI 0) (by decide) dX1_has_16 ?_
      refine r_zret hR dX1_has_17 rfl ?_
      refine ⟨?_, rfl⟩
      first | (rw [bI_t]; omega) | (rw [bI_f]; omega)
  · try simp (disch := omega) only [nI_ltI, nI_leI, nI_eq, bI_0, Decidable.not_not, lc_lt, lc_gt, lc_ge, lc_le, lc_eq, i64_toInt] at c1
    try simp (disch := omega) only [cv_lt, cv_le, cv_eq, nI_toInt, cv_0] at c1
    first
    | omega
    | refine r_iload1 hR dX1_has_4 ?_
      refine r_aload0 hR dX1_has_5 ?_
      refine r_get hR (by first | decide | assumption | (simp only [gcnt_4, gcnt_1, gcnt_2, gcnt_3, gcnt_12, gcnt_13, gcnt_16]; omega)) fl_X1_25 rfl rfl dX1_has_6 ?_
      try simp only [h0, h2, h3, h4]
      refine r_icmp_ge hR 16 dX1_has_9 (by decide) (fun c9 => ?_) (fun c9 => ?_)
      · try simp (disch := omega) only [nI_ltI, nI_leI, nI_eq, bI_0, Decidable.not_not, lc_lt, lc_gt, lc_ge, lc_le, lc_eq, i64_toInt] at c9
        try simp (disch := omega) only [cv_lt, cv_le, cv_eq, nI_toInt, cv_0] at c9
        first
        | omega
        | refine r_iconst hR (nI 0) (by decide) dX1_has_16 ?_
          refine r_zret hR dX1_has_17 rfl ?_
          refine ⟨?_, rfl⟩
          first | (rw [bI_t]; omega) | (rw [bI_f]; omega)
      · try simp (disch := omega) only [nI_ltI, nI_leI, nI_eq, bI_0, Decidable.not_not, lc_lt, lc_gt, lc_ge, lc_le, lc_eq, i64_toInt] at c9
        try simp (disch := omega) only [cv_lt, cv_le, cv_eq, nI_toInt, cv_0] at c9
        first
        | omega
        | refine r_iconst hR (nI 1) (by decide) dX1_has_12 ?_
          refine r_goto hR 17 dX1_has_13 (by decide) ?_
          refine r_zret hR dX1_has_17 rfl ?_
          refine ⟨?_, rfl⟩
          first | (rw [bI_t]; omega) | (rw [bI_f]; omega)

set_option maxHeartbeats 4000000 in
set_option maxRecDepth 100000 in
theorem t_X1_isFull {G : gG} {M : gM} {q : Nat} {S : Nat → Nat} (hq : q < 3) (h : seaP M q S) (hn : S 3 ≤ 8) : Cf G mX1_isFull 0 [.ref (ad G 1 q)] M (some (.int (bI (S 3 = 8)))) M := by
  obtain ⟨h0, h2, h3, h4, hr, ht⟩ := id h
  refine Ct.of (by decide +kernel) (k := 0) (ls0 := [some (.ref (ad G 1 q))]) rfl rfl (fun _ _ => trivial) ?_
  intro P hR
  refine r_aload0 hR dX1_isFull_0 ?_
  refine r_get hR (by first | decide | assumption | (simp only [gcnt_4, gcnt_1, gcnt_2, gcnt_3, gcnt_12, gcnt_13, gcnt_16]; omega)) fl_X1_25 rfl rfl dX1_isFull_1 ?_
  try simp only [h0, h2, h3, h4]
  refine r_bipush hR (nI 8) (by decide) dX1_isFull_4 ?_
  refine r_icmp_lt hR 13 dX1_isFull_6 (by decide) (fun c6 => ?_) (fun c6 => ?_)
  · try simp (disch := omega) only [nI_ltI, nI_leI, nI_eq, bI_0, Decidable.not_not, lc_lt, lc_gt, lc_ge, lc_le, lc_eq, i64_toInt] at c6
    try simp (disch := omega) only [cv_lt, cv_le, cv_eq, nI_toInt, cv_0] at c6
    first
    | omega
    | refine r_iconst hR (nI 0) (by decide) dX1_isFull_13 ?_
      refine r_zret hR dX1_isFull_14 rfl ?_
      refine ⟨?_, rfl⟩
      first | (rw [bI_t]; omega) | (rw [bI_f]; omega)
  · try simp (disch := omega) only [nI_ltI, nI_leI, nI_eq, bI_0, Decidable.not_not, lc_lt, lc_gt, lc_ge, lc_le, lc_eq, i64_toInt] at c6
    try simp (disch := omega) only [cv_lt, cv_le, cv_eq, nI_toInt, cv_0] at c6
    first
    | omega
    | refine r_iconst hR (nI 1) (by decide) dX1_isFull_9 ?_
      refine r_goto hR 14 dX1_isFull_10 (by decide) ?_
      refine r_zret hR dX1_isFull_14 rfl ?_
      refine ⟨?_, rfl⟩
      first | (rw [bI_t]; omega) | (rw [bI_f]; omega)

set_option maxHeartbeats 4000000 in
set_option maxRecDepth 100000 in
theorem t_X1_isSick {G : gG} {M : gM} {q : Nat} {S : Nat → Nat} (hq : q < 3) (h : seaP M q S) {w : Nat} (hs : S 2 < 256) (hw : w < 8) : Cf G mX1_isSick 0 [.ref (ad G 1 q), .int (nI w)] M (some (.int (bI ((S 2).testBit w = true)))) M := by
  obtain ⟨h0, h2, h3, h4, hr, ht⟩ := id h
  refine Ct.of (by decide +kernel) (k := 0) (ls0 := [some (.ref (ad G 1 q)), some (.int (nI w))]) rfl rfl (fun _ _ => trivial) ?_
  intro P hR
  refine r_aload0 hR dX1_isSick_0 ?_
  refine r_get hR (by first | decide | assumption | (simp only [gcnt_4, gcnt_1, gcnt_2, gcnt_3, gcnt_12, gcnt_13, gcnt_16]; omega)) fl_X1_19 rfl rfl dX1_isSick_1 ?_
  try simp only [h0, h2, h3, h4]
  refine r_iload1 hR dX1_isSick_4 ?_
  refine r_ishr hR dX1_isSick_5 ?_
  refine r_iconst hR (nI 1) (by decide) dX1_isSick_6 ?_
  refine r_iand hR dX1_isSick_7 ?_
  refine r_nm _ (sick_t (S 2) hs w hw).1 ?_
  refine r_iconst hR (nI 1) (by decide) dX1_isSick_8 ?_
  have hbb : (if (S 2).testBit w = true then 1 else 0) < 2 := by split <;> omega
  refine r_icmp_ne hR 16 dX1_isSick_9 (by decide) (fun c9 => ?_) (fun c9 => ?_)
  · try simp (disch := omega) only [nI_ltI, nI_leI, nI_eq, bI_0, Decidable.not_not, lc_lt, lc_gt, lc_ge, lc_le, lc_eq, i64_toInt] at c9
    try simp (disch := omega) only [cv_lt, cv_le, cv_eq, nI_toInt, cv_0] at c9
    first
    | omega
    | refine r_iconst hR (nI 0) (by decide) dX1_isSick_16 ?_
      refine r_zret hR dX1_isSick_17 rfl ?_
      refine ⟨?_, rfl⟩
      split at c9
      · first | omega | rw [bI_t (by assumption)]
      · first | omega | rw [bI_f (by assumption)]
  · try simp (disch := omega) only [nI_ltI, nI_leI, nI_eq, bI_0, Decidable.not_not, lc_lt, lc_gt, lc_ge, lc_le, lc_eq, i64_toInt] at c9
    try simp (disch := omega) only [cv_lt, cv_le, cv_eq, nI_toInt, cv_0] at c9
    first
    | omega
    | refine r_iconst hR (nI 1) (by decide) dX1_isSick_12 ?_
      refine r_goto hR 17 dX1_isSick_13 (by decide) ?_
      refine r_zret hR dX1_isSick_17 rfl ?_
      refine ⟨?_, rfl⟩
      split at c9
      · first | omega | rw [bI_t (by assumption)]
      · first | omega | rw [bI_f (by assumption)]

set_option maxHeartbeats 4000000 in
set_option maxRecDepth 100000 in
theorem t_X1_makeSick {G : gG} {M : gM} {q : Nat} {S : Nat → Nat} (hq : q < 3) (h : seaP M q S) {w v : Nat} (hs : S 2 < 256) (hw : w < 8) (hv : v < 2) : Cf G mX1_makeSick 0 [.ref (ad G 1 q), .int (nI w), .int (nI v)] M none (putSea M q (va_up S 2 (mkS (S 2) w v))) := by
  obtain ⟨h0, h2, h3, h4, hr, ht⟩ := id h
  refine Ct.of (by decide +kernel) (k := 0) (ls0 := [some (.ref (ad G 1 q)), some (.int (nI w)), some (.int (nI v))]) rfl rfl (fun _ _ => trivial) ?_
  intro P hR
  have J26 : P 26 [some (.ref (ad G 1 q)), some (.int (nI w)), some (.int (nI v))] [.int (nI (mkS (S 2) w v)), .ref (ad G 1 q)] M := by
    refine r_puti hR (by first | decide | assumption | (simp only [gcnt_4, gcnt_1, gcnt_2, gcnt_3, gcnt_12, gcnt_13, gcnt_16]; omega)) fp_X1_19 rfl rfl (Nat.le_of_ble_eq_true rfl) rfl rfl dX1_makeSick_26 ?_
    refine r_vret hR dX1_makeSick_29 ?_
    refine ⟨rfl, ?_⟩
    conv => lhs; rw [← putSn_id h]
    exact putSn_seti_s M q S (S 3) _
  refine r_aload0 hR dX1_makeSick_0 ?_
  refine r_iload2 hR dX1_makeSick_1 ?_
  refine r_if_eq hR 16 dX1_makeSick_2 (by decide) (fun c2 => ?_) (fun c2 => ?_)
  · try simp (disch := omega) only [nI_ltI, nI_leI, nI_eq, bI_0, Decidable.not_not, lc_lt, lc_gt, lc_ge, lc_le, lc_eq, i64_toInt] at c2
    try simp (disch := omega) only [cv_lt, cv_le, cv_eq, nI_toInt, cv_0] at c2
    first
    | omega
    | refine r_aload0 hR dX1_makeSick_16 ?_
      refine r_get hR (by first | decide | assumption | (simp only [gcnt_4, gcnt_1, gcnt_2, gcnt_3, gcnt_12, gcnt_13, gcnt_16]; omega)) fl_X1_19 rfl rfl dX1_makeSick_17 ?_
      try simp only [h0, h2, h3, h4]
      refine r_iconst hR (nI 1) (by decide) dX1_makeSick_20 ?_
      refine r_iload1 hR dX1_makeSick_21 ?_
      refine r_ishl hR dX1_makeSick_22 ?_
      refine r_iconst hR (-1) (by decide) dX1_makeSick_23 ?_
      refine r_ixor hR dX1_makeSick_24 ?_
      refine r_iand hR dX1_makeSick_25 ?_
      refine r_nm _ (sick_t (S 2) hs w hw).2.2.1 ?_
      refine r_nm (nI (mkS (S 2) w v)) (by rcases (show v = 0 ∨ v = 1 by omega) with rfl | rfl <;> first | rfl | omega) ?_
      exact J26
  · try simp (disch := omega) only [nI_ltI, nI_leI, nI_eq, bI_0, Decidable.not_not, lc_lt, lc_gt, lc_ge, lc_le, lc_eq, i64_toInt] at c2
    try simp (disch := omega) only [cv_lt, cv_le, cv_eq, nI_toInt, cv_0] at c2
    first
    | omega
    | refine r_aload0 hR dX1_makeSick_5 ?_
      refine r_get hR (by first | decide | assumption | (simp only [gcnt_4, gcnt_1, gcnt_2, gcnt_3, gcnt_12, gcnt_13, gcnt_16]; omega)) fl_X1_19 rfl rfl dX1_makeSick_6 ?_
      try simp only [h0, h2, h3, h4]
      refine r_iconst hR (nI 1) (by decide) dX1_makeSick_9 ?_
      refine r_iload1 hR dX1_makeSick_10 ?_
      refine r_ishl hR dX1_makeSick_11 ?_
      refine r_ior hR dX1_makeSick_12 ?_
      refine r_nm _ (sick_t (S 2) hs w hw).2.1 ?_
      refine r_goto hR 26 dX1_makeSick_13 (by decide) ?_
      refine r_nm (nI (mkS (S 2) w v)) (by rcases (show v = 0 ∨ v = 1 by omega) with rfl | rfl <;> first | rfl | omega) ?_
      exact J26

set_option maxHeartbeats 4000000 in
set_option maxRecDepth 100000 in
theorem t_X1_calms {G : gG} {M : gM} {q : Nat} {S : Nat → Nat} (hq : q < 3) (h : seaP M q S) (hwf : wfS S) : Cf G mX1_calms 0 [.ref (ad G 1 q)] M (some (.int (nI (calP S 7)))) M := by
  obtain ⟨h0, h2, h3, h4, hr, ht⟩ := id h
  obtain ⟨w0, w1, w2, w3, wr, wt⟩ := id hwf
  refine Ct.of (by decide +kernel) (k := 2) (ls0 := [some (.ref (ad G 1 q)), none, none]) rfl rfl (fun _ _ => trivial) ?_
  intro P hR
  have L : ∀ (j i : Nat), i + j = 7 → P 4 [some (.ref (ad G 1 q)), some (.int (nI (calP S i))), some (.int (nI i))] [] M := by
    intro j
    induction j with
    | zero =>
      intro i  hij 
      refine r_iload2 hR dX1_calms_4 ?_
      refine r_bipush hR (nI 7) (by decide) dX1_calms_5 ?_
      refine r_icmp_ge hR 30 dX1_calms_7 (by decide) (fun c7 => ?_) (fun c7 => ?_)
      · try simp (disch := omega) only [nI_ltI, nI_leI, nI_eq, bI_0, Decidable.not_not, lc_lt, lc_gt, lc_ge, lc_le, lc_eq, i64_toInt] at c7
        try simp (disch := omega) only [cv_lt, cv_le, cv_eq, nI_toInt, cv_0] at c7
        first
        | omega
        | refine r_iload1 hR dX1_calms_30 ?_
          refine r_iret hR dX1_calms_31 ?_
          first | (obtain rfl : i = 7 := by omega
                   exact ⟨rfl, rfl⟩) | omega
      · try simp (disch := omega) only [nI_ltI, nI_leI, nI_eq, bI_0, Decidable.not_not, lc_lt, lc_gt, lc_ge, lc_le, lc_eq, i64_toInt] at c7
        try simp (disch := omega) only [cv_lt, cv_le, cv_eq, nI_toInt, cv_0] at c7
        first
        | omega
        | refine r_aload0 hR dX1_calms_10 ?_
          refine r_get hR (by first | decide | assumption | (simp only [gcnt_4, gcnt_1, gcnt_2, gcnt_3, gcnt_12, gcnt_13, gcnt_16]; omega)) fl_X1_15 rfl rfl dX1_calms_11 ?_
          try simp only [h0, h2, h3, h4]
          refine r_iload2 hR dX1_calms_14 ?_
          refine r_iald hR (by first | decide | assumption | (simp only [gcnt_4, gcnt_1, gcnt_2, gcnt_3, gcnt_12, gcnt_13, gcnt_16]; omega)) rfl rfl (by omega) (by decide) dX1_calms_15 ?_
          try simp only [h0, h2, h3, h4]
          rw [hr i (by omega)]
          have hri := wr i (by omega)
          have hci := calP_le S i
          refine r_bipush hR (nI 8) (by decide) dX1_calms_16 ?_
          refine r_icmp_ne hR 24 dX1_calms_18 (by decide) (fun c18 => ?_) (fun c18 => ?_)
          · try simp (disch := omega) only [nI_ltI, nI_leI, nI_eq, bI_0, Decidable.not_not, lc_lt, lc_gt, lc_ge, lc_le, lc_eq, i64_toInt] at c18
            try simp (disch := omega) only [cv_lt, cv_le, cv_eq, nI_toInt, cv_0] at c18
            first
            | omega
            | refine r_iinc2 hR (nI 1) (by decide) (fun _ h => by first | (cases h; rfl) | exact absurd h (by simp)) dX1_calms_24 ?_
              try rw [nI_add]
              refine r_goto hR 4 dX1_calms_27 (by decide) ?_
              omega
          · try simp (disch := omega) only [nI_ltI, nI_leI, nI_eq, bI_0, Decidable.not_not, lc_lt, lc_gt, lc_ge, lc_le, lc_eq, i64_toInt] at c18
            try simp (disch := omega) only [cv_lt, cv_le, cv_eq, nI_toInt, cv_0] at c18
            first
            | omega
            | refine r_iinc1 hR (nI 1) (by decide) (fun _ h => by first | (cases h; rfl) | exact absurd h (by simp)) dX1_calms_21 ?_
              try rw [nI_add]
              refine r_iinc2 hR (nI 1) (by decide) (fun _ h => by first | (cases h; rfl) | exact absurd h (by simp)) dX1_calms_24 ?_
              try rw [nI_add]
              refine r_goto hR 4 dX1_calms_27 (by decide) ?_
              omega
    | succ j ih =>
      intro i  hij 
      refine r_iload2 hR dX1_calms_4 ?_
      refine r_bipush hR (nI 7) (by decide) dX1_calms_5 ?_
      refine r_icmp_ge hR 30 dX1_calms_7 (by decide) (fun c7 => ?_) (fun c7 => ?_)
      · try simp (disch := omega) only [nI_ltI, nI_leI, nI_eq, bI_0, Decidable.not_not, lc_lt, lc_gt, lc_ge, lc_le, lc_eq, i64_toInt] at c7
        try simp (disch := omega) only [cv_lt, cv_le, cv_eq, nI_toInt, cv_0] at c7
        first
        | omega
        | refine r_iload1 hR dX1_calms_30 ?_
          refine r_iret hR dX1_calms_31 ?_
          first | (obtain rfl : i = 7 := by omega
                   exact ⟨rfl, rfl⟩) | omega
      · try simp (disch := omega) only [nI_ltI, nI_leI, nI_eq, bI_0, Decidable.not_not, lc_lt, lc_gt, lc_ge, lc_le, lc_eq, i64_toInt] at c7
        try simp (disch := omega) only [cv_lt, cv_le, cv_eq, nI_toInt, cv_0] at c7
        first
        | omega
        | refine r_aload0 hR dX1_calms_10 ?_
          refine r_get hR (by first | decide | assumption | (simp only [gcnt_4, gcnt_1, gcnt_2, gcnt_3, gcnt_12, gcnt_13, gcnt_16]; omega)) fl_X1_15 rfl rfl dX1_calms_11 ?_
          try simp only [h0, h2, h3, h4]
          refine r_iload2 hR dX1_calms_14 ?_
          refine r_iald hR (by first | decide | assumption | (simp only [gcnt_4, gcnt_1, gcnt_2, gcnt_3, gcnt_12, gcnt_13, gcnt_16]; omega)) rfl rfl (by omega) (by decide) dX1_calms_15 ?_
          try simp only [h0, h2, h3, h4]
          rw [hr i (by omega)]
          have hri := wr i (by omega)
          have hci := calP_le S i
          refine r_bipush hR (nI 8) (by decide) dX1_calms_16 ?_
          refine r_icmp_ne hR 24 dX1_calms_18 (by decide) (fun c18 => ?_) (fun c18 => ?_)
          · try simp (disch := omega) only [nI_ltI, nI_leI, nI_eq, bI_0, Decidable.not_not, lc_lt, lc_gt, lc_ge, lc_le, lc_eq, i64_toInt] at c18
            try simp (disch := omega) only [cv_lt, cv_le, cv_eq, nI_toInt, cv_0] at c18
            first
            | omega
            | refine r_iinc2 hR (nI 1) (by decide) (fun _ h => by first | (cases h; rfl) | exact absurd h (by simp)) dX1_calms_24 ?_
              try rw [nI_add]
              refine r_goto hR 4 dX1_calms_27 (by decide) ?_
              have e : calP S (i + 1) = calP S i + (if S (4 + i) = 8 then 1 else 0) := rfl
              first
              | (rw [if_pos c18] at e; rw [← e]; exact ih (i + 1) (by omega))
              | (rw [if_neg c18] at e; rw [show calP S i = calP S (i + 1) by omega]; exact ih (i + 1) (by omega))
          · try simp (disch := omega) only [nI_ltI, nI_leI, nI_eq, bI_0, Decidable.not_not, lc_lt, lc_gt, lc_ge, lc_le, lc_eq, i64_toInt] at c18
            try simp (disch := omega) only [cv_lt, cv_le, cv_eq, nI_toInt, cv_0] at c18
            first
            | omega
            | refine r_iinc1 hR (nI 1) (by decide) (fun _ h => by first | (cases h; rfl) | exact absurd h (by simp)) dX1_calms_21 ?_
              try rw [nI_add]
              refine r_iinc2 hR (nI 1) (by decide) (fun _ h => by first | (cases h; rfl) | exact absurd h (by simp)) dX1_calms_24 ?_
              try rw [nI_add]
              refine r_goto hR 4 dX1_calms_27 (by decide) ?_
              have e : calP S (i + 1) = calP S i + (if S (4 + i) = 8 then 1 else 0) := rfl
              first
              | (rw [if_pos c18] at e; rw [← e]; exact ih (i + 1) (by omega))
              | (rw [if_neg c18] at e; rw [show calP S i = calP S (i + 1) by omega]; exact ih (i + 1) (by omega))
  refine r_iconst hR (nI 0) (by decide) dX1_calms_0 ?_
  refine r_istore1 hR (fun _ h => by first | (cases h; rfl) | exact absurd h (by simp)) dX1_calms_1 ?_
  refine r_iconst hR (nI 0) (by decide) dX1_calms_2 ?_
  refine r_istore2 hR (fun _ h => by first | (cases h; rfl) | exact absurd h (by simp)) dX1_calms_3 ?_
  exact L 7 0 rfl

set_option maxHeartbeats 4000000 in
set_option maxRecDepth 100000 in
theorem t_X1_windOn {G : gG} {M : gM} {q : Nat} {S : Nat → Nat} (hq : q < 3) (h : seaP M q S) (hwf : wfS S) {day : Nat} (hd : day < 2 ^ 31) : Cf G mX1_windOn 1 [.ref (ad G 1 q), .int (nI day)] M (some (.int (nI (blow S day)))) M := by
  obtain ⟨h0, h2, h3, h4, hr, ht⟩ := id h
  obtain ⟨w0, w1, w2, w3, wr, wt⟩ := id hwf
  refine Ct.of (by decide +kernel) (k := 3) (ls0 := [some (.ref (ad G 1 q)), some (.int (nI day)), none, none, none]) rfl rfl (fun _ _ => trivial) ?_
  intro P hR
  obtain ⟨due, hdu⟩ : ∃ due, S (4 + day % 7) = due := ⟨_, rfl⟩
  have hdl : due ≤ 8 := by rw [← hdu]; exact wr _ (Nat.mod_lt _ (by decide))
  by_cases hd8 : due = 8
  · skip
    refine r_aload0 hR dX1_windOn_0 ?_
    refine r_get hR (by first | decide | assumption | (simp only [gcnt_4, gcnt_1, gcnt_2, gcnt_3, gcnt_12, gcnt_13, gcnt_16]; omega)) fl_X1_15 rfl rfl dX1_windOn_1 ?_
    try simp only [h0, h2, h3, h4]
    refine r_iload1 hR dX1_windOn_4 ?_
    refine r_bipush hR (nI 7) (by decide) dX1_windOn_5 ?_
    refine r_cs2v hR ks_X1_61 (by decide) (t_J9_floorMod_7cf53 hd (by decide) (by decide)) (Nat.le_of_ble_eq_true rfl) dX1_windOn_7 ?_
    refine r_iald hR (by first | decide | assumption | (simp only [gcnt_4, gcnt_1, gcnt_2, gcnt_3, gcnt_12, gcnt_13, gcnt_16]; omega)) rfl rfl (Nat.mod_lt _ (by decide)) (by decide) dX1_windOn_10 ?_
    try simp only [h0, h2, h3, h4]
    rw [hr _ (Nat.mod_lt _ (by decide)), hdu]
    refine r_istore2 hR (fun _ h => by first | (cases h; rfl) | exact absurd h (by simp)) dX1_windOn_11 ?_
    refine r_iload2 hR dX1_windOn_12 ?_
    refine r_bipush hR (nI 8) (by decide) dX1_windOn_13 ?_
    refine r_icmp_ne hR 21 dX1_windOn_15 (by decide) (fun c15 => ?_) (fun c15 => ?_)
    · try simp (disch := omega) only [nI_ltI, nI_leI, nI_eq, bI_0, Decidable.not_not, lc_lt, lc_gt, lc_ge, lc_le, lc_eq, i64_toInt] at c15
      try simp (disch := omega) only [cv_lt, cv_le, cv_eq, nI_toInt, cv_0] at c15
      first
      | omega
      | refine r_iconst hR (nI 0) (by decide) dX1_windOn_21 ?_
        refine r_istore3 hR (fun _ h => by first | (cases h; rfl) | exact absurd h (by simp)) dX1_windOn_22 ?_
        omega
    · try simp (disch := omega) only [nI_ltI, nI_leI, nI_eq, bI_0, Decidable.not_not, lc_lt, lc_gt, lc_ge, lc_le, lc_eq, i64_toInt] at c15
      try simp (disch := omega) only [cv_lt, cv_le, cv_eq, nI_toInt, cv_0] at c15
      first
      | omega
      | refine r_bipush hR (nI 8) (by decide) dX1_windOn_18 ?_
        refine r_iret hR dX1_windOn_20 ?_
        refine ⟨congrArg (fun z => some (Value.int (nI z))) ?_, rfl⟩
        unfold blow
        rw [hdu, if_pos hd8]
  have hble : bw (S 2) 8 due = blow S day := by unfold blow; rw [hdu, if_neg hd8]
  have L : ∀ (j i : Nat) (x4 : Option Value), i + j = 8 → bw (S 2) (8 - i) ((due + i) % 8) = blow S day → P 23 [some (.ref (ad G 1 q)), some (.int (nI day)), some (.int (nI due)), some (.int (nI i)), x4] [] M := by
    intro j
    induction j with
    | zero =>
      intro i x4 hij hb
      refine r_iload3 hR dX1_windOn_23 ?_
      refine r_bipush hR (nI 8) (by decide) dX1_windOn_24 ?_
      refine r_icmp_ge hR 55 dX1_windOn_26 (by decide) (fun c26 => ?_) (fun c26 => ?_)
      · try simp (disch := omega) only [nI_ltI, nI_leI, nI_eq, bI_0, Decidable.not_not, lc_lt, lc_gt, lc_ge, lc_le, lc_eq, i64_toInt] at c26
        try simp (disch := omega) only [cv_lt, cv_le, cv_eq, nI_toInt, cv_0] at c26
        first
        | omega
        | refine r_bipush hR (nI 8) (by decide) dX1_windOn_55 ?_
          refine r_iret hR dX1_windOn_57 ?_
          obtain rfl : i = 8 := by omega
          exact ⟨congrArg (fun z => some (Value.int (nI z))) hb, rfl⟩
      · try simp (disch := omega) only [nI_ltI, nI_leI, nI_eq, bI_0, Decidable.not_not, lc_lt, lc_gt, lc_ge, lc_le, lc_eq, i64_toInt] at c26
        try simp (disch := omega) only [cv_lt, cv_le, cv_eq, nI_toInt, cv_0] at c26
        first
        | omega
        | refine r_iload2 hR dX1_windOn_29 ?_
          refine r_iload3 hR dX1_windOn_30 ?_
          refine r_iadd hR dX1_windOn_31 ?_
          try rw [nI_add]
          refine r_bipush hR (nI 8) (by decide) dX1_windOn_32 ?_
          refine r_iremN hR (by omega) (by omega) (by omega) dX1_windOn_34 ?_
          refine r_istore4 hR (fun _ h => by first | (cases h; rfl) | exact absurd h (by simp)) dX1_windOn_35 ?_
          refine r_aload0 hR dX1_windOn_37 ?_
          refine r_iload4 hR dX1_windOn_38 ?_
          refine r_cv1v hR kv_X1_67 (by decide) (t_X1_isSick hq h w2 (Nat.mod_lt _ (by decide))) (by first | decide | assumption | (simp only [gcnt_4, gcnt_1, gcnt_2, gcnt_3, gcnt_12, gcnt_13, gcnt_16]; omega)) rfl rfl (Nat.le_of_ble_eq_true rfl) dX1_windOn_40 ?_
          refine r_if_ne hR 49 dX1_windOn_43 (by decide) (fun c43 => ?_) (fun c43 => ?_)
          · try simp (disch := omega) only [nI_ltI, nI_leI, nI_eq, bI_0, Decidable.not_not, lc_lt, lc_gt, lc_ge, lc_le, lc_eq, i64_toInt] at c43
            try simp (disch := omega) only [cv_lt, cv_le, cv_eq, nI_toInt, cv_0] at c43
            first
            | omega
            | rw [show 8 - i = (8 - (i + 1)) + 1 by omega, bw, if_pos c43, Nat.mod_add_mod] at hb
              refine r_iinc3 hR (nI 1) (by decide) (fun _ h => by first | (cases h; rfl) | exact absurd h (by simp)) dX1_windOn_49 ?_
              try rw [nI_add]
              refine r_goto hR 23 dX1_windOn_52 (by decide) ?_
              omega
          · try simp (disch := omega) only [nI_ltI, nI_leI, nI_eq, bI_0, Decidable.not_not, lc_lt, lc_gt, lc_ge, lc_le, lc_eq, i64_toInt] at c43
            try simp (disch := omega) only [cv_lt, cv_le, cv_eq, nI_toInt, cv_0] at c43
            first
            | omega
            | refine r_iload4 hR dX1_windOn_46 ?_
              refine r_iret hR dX1_windOn_48 ?_
              refine ⟨congrArg (fun z => some (Value.int (nI z))) ?_, rfl⟩
              rw [show 8 - i = (8 - (i + 1)) + 1 by omega, bw, if_neg c43] at hb
              exact hb
    | succ j ih =>
      intro i x4 hij hb
      refine r_iload3 hR dX1_windOn_23 ?_
      refine r_bipush hR (nI 8) (by decide) dX1_windOn_24 ?_
      refine r_icmp_ge hR 55 dX1_windOn_26 (by decide) (fun c26 => ?_) (fun c26 => ?_)
      · try simp (disch := omega) only [nI_ltI, nI_leI, nI_eq, bI_0, Decidable.not_not, lc_lt, lc_gt, lc_ge, lc_le, lc_eq, i64_toInt] at c26
        try simp (disch := omega) only [cv_lt, cv_le, cv_eq, nI_toInt, cv_0] at c26
        first
        | omega
        | refine r_bipush hR (nI 8) (by decide) dX1_windOn_55 ?_
          refine r_iret hR dX1_windOn_57 ?_
          obtain rfl : i = 8 := by omega
          exact ⟨congrArg (fun z => some (Value.int (nI z))) hb, rfl⟩
      · try simp (disch := omega) only [nI_ltI, nI_leI, nI_eq, bI_0, Decidable.not_not, lc_lt, lc_gt, lc_ge, lc_le, lc_eq, i64_toInt] at c26
        try simp (disch := omega) only [cv_lt, cv_le, cv_eq, nI_toInt, cv_0] at c26
        first
        | omega
        | refine r_iload2 hR dX1_windOn_29 ?_
          refine r_iload3 hR dX1_windOn_30 ?_
          refine r_iadd hR dX1_windOn_31 ?_
          try rw [nI_add]
          refine r_bipush hR (nI 8) (by decide) dX1_windOn_32 ?_
          refine r_iremN hR (by omega) (by omega) (by omega) dX1_windOn_34 ?_
          refine r_istore4 hR (fun _ h => by first | (cases h; rfl) | exact absurd h (by simp)) dX1_windOn_35 ?_
          refine r_aload0 hR dX1_windOn_37 ?_
          refine r_iload4 hR dX1_windOn_38 ?_
          refine r_cv1v hR kv_X1_67 (by decide) (t_X1_isSick hq h w2 (Nat.mod_lt _ (by decide))) (by first | decide | assumption | (simp only [gcnt_4, gcnt_1, gcnt_2, gcnt_3, gcnt_12, gcnt_13, gcnt_16]; omega)) rfl rfl (Nat.le_of_ble_eq_true rfl) dX1_windOn_40 ?_
          refine r_if_ne hR 49 dX1_windOn_43 (by decide) (fun c43 => ?_) (fun c43 => ?_)
          · try simp (disch := omega) only [nI_ltI, nI_leI, nI_eq, bI_0, Decidable.not_not, lc_lt, lc_gt, lc_ge, lc_le, lc_eq, i64_toInt] at c43
            try simp (disch := omega) only [cv_lt, cv_le, cv_eq, nI_toInt, cv_0] at c43
            first
            | omega
            | rw [show 8 - i = (8 - (i + 1)) + 1 by omega, bw, if_pos c43, Nat.mod_add_mod] at hb
              refine r_iinc3 hR (nI 1) (by decide) (fun _ h => by first | (cases h; rfl) | exact absurd h (by simp)) dX1_windOn_49 ?_
              try rw [nI_add]
              refine r_goto hR 23 dX1_windOn_52 (by decide) ?_
              exact ih (i + 1) _ (by omega) hb
          · try simp (disch := omega) only [nI_ltI, nI_leI, nI_eq, bI_0, Decidable.not_not, lc_lt, lc_gt, lc_ge, lc_le, lc_eq, i64_toInt] at c43
            try simp (disch := omega) only [cv_lt, cv_le, cv_eq, nI_toInt, cv_0] at c43
            first
            | omega
            | refine r_iload4 hR dX1_windOn_46 ?_
              refine r_iret hR dX1_windOn_48 ?_
              refine ⟨congrArg (fun z => some (Value.int (nI z))) ?_, rfl⟩
              rw [show 8 - i = (8 - (i + 1)) + 1 by omega, bw, if_neg c43] at hb
              exact hb
  refine r_aload0 hR dX1_windOn_0 ?_
  refine r_get hR (by first | decide | assumption | (simp only [gcnt_4, gcnt_1, gcnt_2, gcnt_3, gcnt_12, gcnt_13, gcnt_16]; omega)) fl_X1_15 rfl rfl dX1_windOn_1 ?_
  try simp only [h0, h2, h3, h4]
  refine r_iload1 hR dX1_windOn_4 ?_
  refine r_bipush hR (nI 7) (by decide) dX1_windOn_5 ?_
  refine r_cs2v hR ks_X1_61 (by decide) (t_J9_floorMod_7cf53 hd (by decide) (by decide)) (Nat.le_of_ble_eq_true rfl) dX1_windOn_7 ?_
  refine r_iald hR (by first | decide | assumption | (simp only [gcnt_4, gcnt_1, gcnt_2, gcnt_3, gcnt_12, gcnt_13, gcnt_16]; omega)) rfl rfl (Nat.mod_lt _ (by decide)) (by decide) dX1_windOn_10 ?_
  try simp only [h0, h2, h3, h4]
  rw [hr _ (Nat.mod_lt _ (by decide)), hdu]
  refine r_istore2 hR (fun _ h => by first | (cases h; rfl) | exact absurd h (by simp)) dX1_windOn_11 ?_
  refine r_iload2 hR dX1_windOn_12 ?_
  refine r_bipush hR (nI 8) (by decide) dX1_windOn_13 ?_
  refine r_icmp_ne hR 21 dX1_windOn_15 (by decide) (fun c15 => ?_) (fun c15 => ?_)
  · try simp (disch := omega) only [nI_ltI, nI_leI, nI_eq, bI_0, Decidable.not_not, lc_lt, lc_gt, lc_ge, lc_le, lc_eq, i64_toInt] at c15
    try simp (disch := omega) only [cv_lt, cv_le, cv_eq, nI_toInt, cv_0] at c15
    first
    | omega
    | refine r_iconst hR (nI 0) (by decide) dX1_windOn_21 ?_
      refine r_istore3 hR (fun _ h => by first | (cases h; rfl) | exact absurd h (by simp)) dX1_windOn_22 ?_
      exact L 8 0 none rfl (by rw [← hble]; rw [Nat.add_zero, Nat.mod_eq_of_lt (by omega)])
  · try simp (disch := omega) only [nI_ltI, nI_leI, nI_eq, bI_0, Decidable.not_not, lc_lt, lc_gt, lc_ge, lc_le, lc_eq, i64_toInt] at c15
    try simp (disch := omega) only [cv_lt, cv_le, cv_eq, nI_toInt, cv_0] at c15
    first
    | omega
    | refine r_bipush hR (nI 8) (by decide) dX1_windOn_18 ?_
      refine r_iret hR dX1_windOn_20 ?_
      refine ⟨congrArg (fun z => some (Value.int (nI z))) ?_, rfl⟩
      unfold blow
      rw [hdu, if_pos c15]

set_option maxHeartbeats 4000000 in
set_option maxRecDepth 100000 in
theorem t_X1_sums {G : gG} {M : gM} {q : Nat} {S : Nat → Nat} (hq : q < 3) (h : seaP M q S) (hwf : wfS S) : Cf G mX1_sums 0 [.ref (ad G 1 q)] M (some (.int (nI (sumsN S)))) M := by
  obtain ⟨h0, h2, h3, h4, hr, ht⟩ := id h
  obtain ⟨w0, w1, w2, w3, wr, wt⟩ := id hwf
  refine Ct.of (by decide +kernel) (k := 2) (ls0 := [some (.ref (ad G 1 q)), none, none]) rfl rfl (fun _ _ => trivial) ?_
  intro P hR
  have L : ∀ (j i : Nat), i + j = S 3 → P 4 [some (.ref (ad G 1 q)), some (.int (nI (sumsP S i))), some (.int (nI i))] [] M := by
    intro j
    induction j with
    | zero =>
      intro i  hij 
      refine r_iload2 hR dX1_sums_4 ?_
      refine r_aload0 hR dX1_sums_5 ?_
      refine r_get hR (by first | decide | assumption | (simp only [gcnt_4, gcnt_1, gcnt_2, gcnt_3, gcnt_12, gcnt_13, gcnt_16]; omega)) fl_X1_25 rfl rfl dX1_sums_6 ?_
      try simp only [h0, h2, h3, h4]
      refine r_icmp_ge hR 30 dX1_sums_9 (by decide) (fun c9 => ?_) (fun c9 => ?_)
      · try simp (disch := omega) only [nI_ltI, nI_leI, nI_eq, bI_0, Decidable.not_not, lc_lt, lc_gt, lc_ge, lc_le, lc_eq, i64_toInt] at c9
        try simp (disch := omega) only [cv_lt, cv_le, cv_eq, nI_toInt, cv_0] at c9
        first
        | omega
        | refine r_iload1 hR dX1_sums_30 ?_
          refine r_iret hR dX1_sums_31 ?_
          obtain rfl : i = S 3 := by omega
          exact ⟨rfl, rfl⟩
      · try simp (disch := omega) only [nI_ltI, nI_leI, nI_eq, bI_0, Decidable.not_not, lc_lt, lc_gt, lc_ge, lc_le, lc_eq, i64_toInt] at c9
        try simp (disch := omega) only [cv_lt, cv_le, cv_eq, nI_toInt, cv_0] at c9
        first
        | omega
        | refine r_iload1 hR dX1_sums_12 ?_
          refine r_aload0 hR dX1_sums_13 ?_
          refine r_get hR (by first | decide | assumption | (simp only [gcnt_4, gcnt_1, gcnt_2, gcnt_3, gcnt_12, gcnt_13, gcnt_16]; omega)) fl_X1_30 rfl rfl dX1_sums_14 ?_
          try simp only [h0, h2, h3, h4]
          refine r_iload2 hR dX1_sums_17 ?_
          refine r_aald hR (t0 := 3) (by first | decide | assumption | (simp only [gcnt_4, gcnt_1, gcnt_2, gcnt_3, gcnt_12, gcnt_13, gcnt_16]; omega)) rfl rfl rfl (by omega) (by decide) rfl dX1_sums_18 ?_
          refine r_get hR (by first | decide | assumption | (simp only [gcnt_4, gcnt_1, gcnt_2, gcnt_3, gcnt_12, gcnt_13, gcnt_16]; omega)) fl_X1_58 rfl rfl dX1_sums_19 ?_
          try simp only [h0, h2, h3, h4]
          rw [ht i (by omega) 3 (by decide)]
          refine r_iadd hR dX1_sums_22 ?_
          try rw [nI_add]
          refine r_istore1 hR (fun _ h => by first | (cases h; rfl) | exact absurd h (by simp)) dX1_sums_23 ?_
          refine r_iinc2 hR (nI 1) (by decide) (fun _ h => by first | (cases h; rfl) | exact absurd h (by simp)) dX1_sums_24 ?_
          try rw [nI_add]
          refine r_goto hR 4 dX1_sums_27 (by decide) ?_
          omega
    | succ j ih =>
      intro i  hij 
      refine r_iload2 hR dX1_sums_4 ?_
      refine r_aload0 hR dX1_sums_5 ?_
      refine r_get hR (by first | decide | assumption | (simp only [gcnt_4, gcnt_1, gcnt_2, gcnt_3, gcnt_12, gcnt_13, gcnt_16]; omega)) fl_X1_25 rfl rfl dX1_sums_6 ?_
      try simp only [h0, h2, h3, h4]
      refine r_icmp_ge hR 30 dX1_sums_9 (by decide) (fun c9 => ?_) (fun c9 => ?_)
      · try simp (disch := omega) only [nI_ltI, nI_leI, nI_eq, bI_0, Decidable.not_not, lc_lt, lc_gt, lc_ge, lc_le, lc_eq, i64_toInt] at c9
        try simp (disch := omega) only [cv_lt, cv_le, cv_eq, nI_toInt, cv_0] at c9
        first
        | omega
        | refine r_iload1 hR dX1_sums_30 ?_
          refine r_iret hR dX1_sums_31 ?_
          obtain rfl : i = S 3 := by omega
          exact ⟨rfl, rfl⟩
      · try simp (disch := omega) only [nI_ltI, nI_leI, nI_eq, bI_0, Decidable.not_not, lc_lt, lc_gt, lc_ge, lc_le, lc_eq, i64_toInt] at c9
        try simp (disch := omega) only [cv_lt, cv_le, cv_eq, nI_toInt, cv_0] at c9
        first
        | omega
        | refine r_iload1 hR dX1_sums_12 ?_
          refine r_aload0 hR dX1_sums_13 ?_
          refine r_get hR (by first | decide | assumption | (simp only [gcnt_4, gcnt_1, gcnt_2, gcnt_3, gcnt_12, gcnt_13, gcnt_16]; omega)) fl_X1_30 rfl rfl dX1_sums_14 ?_
          try simp only [h0, h2, h3, h4]
          refine r_iload2 hR dX1_sums_17 ?_
          refine r_aald hR (t0 := 3) (by first | decide | assumption | (simp only [gcnt_4, gcnt_1, gcnt_2, gcnt_3, gcnt_12, gcnt_13, gcnt_16]; omega)) rfl rfl rfl (by omega) (by decide) rfl dX1_sums_18 ?_
          refine r_get hR (by first | decide | assumption | (simp only [gcnt_4, gcnt_1, gcnt_2, gcnt_3, gcnt_12, gcnt_13, gcnt_16]; omega)) fl_X1_58 rfl rfl dX1_sums_19 ?_
          try simp only [h0, h2, h3, h4]
          rw [ht i (by omega) 3 (by decide)]
          refine r_iadd hR dX1_sums_22 ?_
          try rw [nI_add]
          refine r_istore1 hR (fun _ h => by first | (cases h; rfl) | exact absurd h (by simp)) dX1_sums_23 ?_
          refine r_iinc2 hR (nI 1) (by decide) (fun _ h => by first | (cases h; rfl) | exact absurd h (by simp)) dX1_sums_24 ?_
          try rw [nI_add]
          refine r_goto hR 4 dX1_sums_27 (by decide) ?_
          exact ih (i + 1) (by omega)
  refine r_iconst hR (nI 0) (by decide) dX1_sums_0 ?_
  refine r_istore1 hR (fun _ h => by first | (cases h; rfl) | exact absurd h (by simp)) dX1_sums_1 ?_
  refine r_iconst hR (nI 0) (by decide) dX1_sums_2 ?_
  refine r_istore2 hR (fun _ h => by first | (cases h; rfl) | exact absurd h (by simp)) dX1_sums_3 ?_
  exact L (S 3) 0 (by omega)

set_option maxHeartbeats 4000000 in
set_option maxRecDepth 100000 in
theorem t_X1_earningsToday {G : gG} {M : gM} {q : Nat} {S : Nat → Nat} (hq : q < 3) (h : seaP M q S) (hwf : wfS S) : Cf G mX1_earningsToday 3 [.ref (ad G 1 q)] M (some (.int (nI (earP S (blow S (S 0)) (S 3))))) M := by
  obtain ⟨h0, h2, h3, h4, hr, ht⟩ := id h
  obtain ⟨w0, w1, w2, w3, wr, wt⟩ := id hwf
  refine Ct.of (by decide +kernel) (k := 3) (ls0 := [some (.ref (ad G 1 q)), none, none, none]) rfl rfl (fun _ _ => trivial) ?_
  intro P hR
  have L : ∀ (j i : Nat), i + j = S 3 → P 13 [some (.ref (ad G 1 q)), some (.int (nI (blow S (S 0)))), some (.int (nI (earP S (blow S (S 0)) i))), some (.int (nI i))] [] M := by
    intro j
    induction j with
    | zero =>
      intro i  hij 
      refine r_iload3 hR dX1_earningsToday_13 ?_
      refine r_aload0 hR dX1_earningsToday_14 ?_
      refine r_get hR (by first | decide | assumption | (simp only [gcnt_4, gcnt_1, gcnt_2, gcnt_3, gcnt_12, gcnt_13, gcnt_16]; omega)) fl_X1_25 rfl rfl dX1_earningsToday_15 ?_
      try simp only [h0, h2, h3, h4]
      refine r_icmp_ge hR 48 dX1_earningsToday_18 (by decide) (fun c18 => ?_) (fun c18 => ?_)
      · try simp (disch := omega) only [nI_ltI, nI_leI, nI_eq, bI_0, Decidable.not_not, lc_lt, lc_gt, lc_ge, lc_le, lc_eq, i64_toInt] at c18
        try simp (disch := omega) only [cv_lt, cv_le, cv_eq, nI_toInt, cv_0] at c18
        first
        | omega
        | refine r_iload2 hR dX1_earningsToday_48 ?_
          refine r_iret hR dX1_earningsToday_49 ?_
          obtain rfl : i = S 3 := by omega
          exact ⟨rfl, rfl⟩
      · try simp (disch := omega) only [nI_ltI, nI_leI, nI_eq, bI_0, Decidable.not_not, lc_lt, lc_gt, lc_ge, lc_le, lc_eq, i64_toInt] at c18
        try simp (disch := omega) only [cv_lt, cv_le, cv_eq, nI_toInt, cv_0] at c18
        first
        | omega
        | refine r_iload2 hR dX1_earningsToday_21 ?_
          refine r_aload0 hR dX1_earningsToday_22 ?_
          refine r_get hR (by first | decide | assumption | (simp only [gcnt_4, gcnt_1, gcnt_2, gcnt_3, gcnt_12, gcnt_13, gcnt_16]; omega)) fl_X1_30 rfl rfl dX1_earningsToday_23 ?_
          try simp only [h0, h2, h3, h4]
          refine r_iload3 hR dX1_earningsToday_26 ?_
          refine r_aald hR (t0 := 3) (by first | decide | assumption | (simp only [gcnt_4, gcnt_1, gcnt_2, gcnt_3, gcnt_12, gcnt_13, gcnt_16]; omega)) rfl rfl rfl (by omega) (by decide) rfl dX1_earningsToday_27 ?_
          refine r_aload0 hR dX1_earningsToday_28 ?_
          refine r_get hR (by first | decide | assumption | (simp only [gcnt_4, gcnt_1, gcnt_2, gcnt_3, gcnt_12, gcnt_13, gcnt_16]; omega)) fl_X1_9 rfl rfl dX1_earningsToday_29 ?_
          try simp only [h0, h2, h3, h4]
          refine r_iload1 hR dX1_earningsToday_32 ?_
          refine r_aload0 hR dX1_earningsToday_33 ?_
          refine r_get hR (by first | decide | assumption | (simp only [gcnt_4, gcnt_1, gcnt_2, gcnt_3, gcnt_12, gcnt_13, gcnt_16]; omega)) fl_X1_22 rfl rfl dX1_earningsToday_34 ?_
          try simp only [h0, h2, h3, h4]
          refine r_cv3v hR kv_X1_75 (by decide) (t_X5_earnings (by omega) (show _ = nI (S (11 + 4 * i)) from ht i (by omega) 0 (by decide)) (ht i (by omega) 2 (by decide)) (show _ < 6 by have := wt i (by omega); omega) (show _ < 8 by have := wt i (by omega); omega) (by have := blow_le (d := S 0) wr; omega) w1 (by omega)) (by first | decide | assumption | (simp only [gcnt_4, gcnt_1, gcnt_2, gcnt_3, gcnt_12, gcnt_13, gcnt_16]; omega)) rfl rfl (Nat.le_of_ble_eq_true rfl) dX1_earningsToday_37 ?_
          refine r_iadd hR dX1_earningsToday_40 ?_
          try rw [nI_add]
          refine r_istore2 hR (fun _ h => by first | (cases h; rfl) | exact absurd h (by simp)) dX1_earningsToday_41 ?_
          refine r_iinc3 hR (nI 1) (by decide) (fun _ h => by first | (cases h; rfl) | exact absurd h (by simp)) dX1_earningsToday_42 ?_
          try rw [nI_add]
          refine r_goto hR 13 dX1_earningsToday_45 (by decide) ?_
          omega
    | succ j ih =>
      intro i  hij 
      refine r_iload3 hR dX1_earningsToday_13 ?_
      refine r_aload0 hR dX1_earningsToday_14 ?_
      refine r_get hR (by first | decide | assumption | (simp only [gcnt_4, gcnt_1, gcnt_2, gcnt_3, gcnt_12, gcnt_13, gcnt_16]; omega)) fl_X1_25 rfl rfl dX1_earningsToday_15 ?_
      try simp only [h0, h2, h3, h4]
      refine r_icmp_ge hR 48 dX1_earningsToday_18 (by decide) (fun c18 => ?_) (fun c18 => ?_)
      · try simp (disch := omega) only [nI_ltI, nI_leI, nI_eq, bI_0, Decidable.not_not, lc_lt, lc_gt, lc_ge, lc_le, lc_eq, i64_toInt] at c18
        try simp (disch := omega) only [cv_lt, cv_le, cv_eq, nI_toInt, cv_0] at c18
        first
        | omega
        | refine r_iload2 hR dX1_earningsToday_48 ?_
          refine r_iret hR dX1_earningsToday_49 ?_
          obtain rfl : i = S 3 := by omega
          exact ⟨rfl, rfl⟩
      · try simp (disch := omega) only [nI_ltI, nI_leI, nI_eq, bI_0, Decidable.not_not, lc_lt, lc_gt, lc_ge, lc_le, lc_eq, i64_toInt] at c18
        try simp (disch := omega) only [cv_lt, cv_le, cv_eq, nI_toInt, cv_0] at c18
        first
        | omega
        | refine r_iload2 hR dX1_earningsToday_21 ?_
          refine r_aload0 hR dX1_earningsToday_22 ?_
          refine r_get hR (by first | decide | assumption | (simp only [gcnt_4, gcnt_1, gcnt_2, gcnt_3, gcnt_12, gcnt_13, gcnt_16]; omega)) fl_X1_30 rfl rfl dX1_earningsToday_23 ?_
          try simp only [h0, h2, h3, h4]
          refine r_iload3 hR dX1_earningsToday_26 ?_
          refine r_aald hR (t0 := 3) (by first | decide | assumption | (simp only [gcnt_4, gcnt_1, gcnt_2, gcnt_3, gcnt_12, gcnt_13, gcnt_16]; omega)) rfl rfl rfl (by omega) (by decide) rfl dX1_earningsToday_27 ?_
          refine r_aload0 hR dX1_earningsToday_28 ?_
          refine r_get hR (by first | decide | assumption | (simp only [gcnt_4, gcnt_1, gcnt_2, gcnt_3, gcnt_12, gcnt_13, gcnt_16]; omega)) fl_X1_9 rfl rfl dX1_earningsToday_29 ?_
          try simp only [h0, h2, h3, h4]
          refine r_iload1 hR dX1_earningsToday_32 ?_
          refine r_aload0 hR dX1_earningsToday_33 ?_
          refine r_get hR (by first | decide | assumption | (simp only [gcnt_4, gcnt_1, gcnt_2, gcnt_3, gcnt_12, gcnt_13, gcnt_16]; omega)) fl_X1_22 rfl rfl dX1_earningsToday_34 ?_
          try simp only [h0, h2, h3, h4]
          refine r_cv3v hR kv_X1_75 (by decide) (t_X5_earnings (by omega) (show _ = nI (S (11 + 4 * i)) from ht i (by omega) 0 (by decide)) (ht i (by omega) 2 (by decide)) (show _ < 6 by have := wt i (by omega); omega) (show _ < 8 by have := wt i (by omega); omega) (by have := blow_le (d := S 0) wr; omega) w1 (by omega)) (by first | decide | assumption | (simp only [gcnt_4, gcnt_1, gcnt_2, gcnt_3, gcnt_12, gcnt_13, gcnt_16]; omega)) rfl rfl (Nat.le_of_ble_eq_true rfl) dX1_earningsToday_37 ?_
          refine r_iadd hR dX1_earningsToday_40 ?_
          try rw [nI_add]
          refine r_istore2 hR (fun _ h => by first | (cases h; rfl) | exact absurd h (by simp)) dX1_earningsToday_41 ?_
          refine r_iinc3 hR (nI 1) (by decide) (fun _ h => by first | (cases h; rfl) | exact absurd h (by simp)) dX1_earningsToday_42 ?_
          try rw [nI_add]
          refine r_goto hR 13 dX1_earningsToday_45 (by decide) ?_
          exact ih (i + 1) (by omega)
  refine r_aload0 hR dX1_earningsToday_0 ?_
  refine r_aload0 hR dX1_earningsToday_1 ?_
  refine r_get hR (by first | decide | assumption | (simp only [gcnt_4, gcnt_1, gcnt_2, gcnt_3, gcnt_12, gcnt_13, gcnt_16]; omega)) fl_X1_9 rfl rfl dX1_earningsToday_2 ?_
  try simp only [h0, h2, h3, h4]
  refine r_cv1v hR kv_X1_71 (by decide) (t_X1_windOn hq h hwf (by omega)) (by first | decide | assumption | (simp only [gcnt_4, gcnt_1, gcnt_2, gcnt_3, gcnt_12, gcnt_13, gcnt_16]; omega)) rfl rfl (Nat.le_of_ble_eq_true rfl) dX1_earningsToday_5 ?_
  refine r_istore1 hR (fun _ h => by first | (cases h; rfl) | exact absurd h (by simp)) dX1_earningsToday_8 ?_
  refine r_iconst hR (nI 0) (by decide) dX1_earningsToday_9 ?_
  refine r_istore2 hR (fun _ h => by first | (cases h; rfl) | exact absurd h (by simp)) dX1_earningsToday_10 ?_
  refine r_iconst hR (nI 0) (by decide) dX1_earningsToday_11 ?_
  refine r_istore3 hR (fun _ h => by first | (cases h; rfl) | exact absurd h (by simp)) dX1_earningsToday_12 ?_
  exact L (S 3) 0 (by omega)

set_option maxHeartbeats 4000000 in
set_option maxRecDepth 100000 in
theorem t_X1_goingToday {G : gG} {M : gM} {q : Nat} {S : Nat → Nat} (hq : q < 3) (h : seaP M q S) (hwf : wfS S) : Cf G mX1_goingToday 2 [.ref (ad G 1 q)] M (some (.int (nI (goP S (blow S (S 0)) (S 3))))) M := by
  obtain ⟨h0, h2, h3, h4, hr, ht⟩ := id h
  obtain ⟨w0, w1, w2, w3, wr, wt⟩ := id hwf
  refine Ct.of (by decide +kernel) (k := 3) (ls0 := [some (.ref (ad G 1 q)), none, none, none]) rfl rfl (fun _ _ => trivial) ?_
  intro P hR
  have L : ∀ (j i : Nat), i + j = S 3 → P 13 [some (.ref (ad G 1 q)), some (.int (nI (blow S (S 0)))), some (.int (nI (goP S (blow S (S 0)) i))), some (.int (nI i))] [] M := by
    intro j
    induction j with
    | zero =>
      intro i  hij 
      refine r_iload3 hR dX1_goingToday_13 ?_
      refine r_aload0 hR dX1_goingToday_14 ?_
      refine r_get hR (by first | decide | assumption | (simp only [gcnt_4, gcnt_1, gcnt_2, gcnt_3, gcnt_12, gcnt_13, gcnt_16]; omega)) fl_X1_25 rfl rfl dX1_goingToday_15 ?_
      try simp only [h0, h2, h3, h4]
      refine r_icmp_ge hR 50 dX1_goingToday_18 (by decide) (fun c18 => ?_) (fun c18 => ?_)
      · try simp (disch := omega) only [nI_ltI, nI_leI, nI_eq, bI_0, Decidable.not_not, lc_lt, lc_gt, lc_ge, lc_le, lc_eq, i64_toInt] at c18
        try simp (disch := omega) only [cv_lt, cv_le, cv_eq, nI_toInt, cv_0] at c18
        first
        | omega
        | refine r_iload2 hR dX1_goingToday_50 ?_
          refine r_iret hR dX1_goingToday_51 ?_
          obtain rfl : i = S 3 := by omega
          exact ⟨rfl, rfl⟩
      · try simp (disch := omega) only [nI_ltI, nI_leI, nI_eq, bI_0, Decidable.not_not, lc_lt, lc_gt, lc_ge, lc_le, lc_eq, i64_toInt] at c18
        try simp (disch := omega) only [cv_lt, cv_le, cv_eq, nI_toInt, cv_0] at c18
        first
        | omega
        | refine r_aload0 hR dX1_goingToday_21 ?_
          refine r_get hR (by first | decide | assumption | (simp only [gcnt_4, gcnt_1, gcnt_2, gcnt_3, gcnt_12, gcnt_13, gcnt_16]; omega)) fl_X1_30 rfl rfl dX1_goingToday_22 ?_
          try simp only [h0, h2, h3, h4]
          refine r_iload3 hR dX1_goingToday_25 ?_
          refine r_aald hR (t0 := 3) (by first | decide | assumption | (simp only [gcnt_4, gcnt_1, gcnt_2, gcnt_3, gcnt_12, gcnt_13, gcnt_16]; omega)) rfl rfl rfl (by omega) (by decide) rfl dX1_goingToday_26 ?_
          refine r_iload1 hR dX1_goingToday_27 ?_
          refine r_aload0 hR dX1_goingToday_28 ?_
          refine r_get hR (by first | decide | assumption | (simp only [gcnt_4, gcnt_1, gcnt_2, gcnt_3, gcnt_12, gcnt_13, gcnt_16]; omega)) fl_X1_22 rfl rfl dX1_goingToday_29 ?_
          try simp only [h0, h2, h3, h4]
          refine r_cv2v hR kv_X1_79 (by decide) (t_X5_isGoing (by omega) (show _ = nI (S (11 + 4 * i)) from ht i (by omega) 0 (by decide)) (ht i (by omega) 2 (by decide)) (show _ < 6 by have := wt i (by omega); omega) (show _ < 8 by have := wt i (by omega); omega) (by have := blow_le (d := S 0) wr; omega) w1) (by first | decide | assumption | (simp only [gcnt_4, gcnt_1, gcnt_2, gcnt_3, gcnt_12, gcnt_13, gcnt_16]; omega)) rfl rfl (Nat.le_of_ble_eq_true rfl) dX1_goingToday_32 ?_
          refine r_if_eq hR 44 dX1_goingToday_35 (by decide) (fun c35 => ?_) (fun c35 => ?_)
          · try simp (disch := omega) only [nI_ltI, nI_leI, nI_eq, bI_0, Decidable.not_not, lc_lt, lc_gt, lc_ge, lc_le, lc_eq, i64_toInt] at c35
            try simp (disch := omega) only [cv_lt, cv_le, cv_eq, nI_toInt, cv_0] at c35
            first
            | omega
            | refine r_iinc3 hR (nI 1) (by decide) (fun _ h => by first | (cases h; rfl) | exact absurd h (by simp)) dX1_goingToday_44 ?_
              try rw [nI_add]
              refine r_goto hR 13 dX1_goingToday_47 (by decide) ?_
              omega
          · try simp (disch := omega) only [nI_ltI, nI_leI, nI_eq, bI_0, Decidable.not_not, lc_lt, lc_gt, lc_ge, lc_le, lc_eq, i64_toInt] at c35
            try simp (disch := omega) only [cv_lt, cv_le, cv_eq, nI_toInt, cv_0] at c35
            first
            | omega
            | refine r_iload2 hR dX1_goingToday_38 ?_
              refine r_iconst hR (nI 1) (by decide) dX1_goingToday_39 ?_
              refine r_iload3 hR dX1_goingToday_40 ?_
              refine r_ishl hR dX1_goingToday_41 ?_
              refine r_ior hR dX1_goingToday_42 ?_
              rw [shl_t i (by omega), nx_or]
              refine r_istore2 hR (fun _ h => by first | (cases h; rfl) | exact absurd h (by simp)) dX1_goingToday_43 ?_
              refine r_iinc3 hR (nI 1) (by decide) (fun _ h => by first | (cases h; rfl) | exact absurd h (by simp)) dX1_goingToday_44 ?_
              try rw [nI_add]
              refine r_goto hR 13 dX1_goingToday_47 (by decide) ?_
              omega
    | succ j ih =>
      intro i  hij 
      refine r_iload3 hR dX1_goingToday_13 ?_
      refine r_aload0 hR dX1_goingToday_14 ?_
      refine r_get hR (by first | decide | assumption | (simp only [gcnt_4, gcnt_1, gcnt_2, gcnt_3, gcnt_12, gcnt_13, gcnt_16]; omega)) fl_X1_25 rfl rfl dX1_goingToday_15 ?_
      try simp only [h0, h2, h3, h4]
      refine r_icmp_ge hR 50 dX1_goingToday_18 (by decide) (fun c18 => ?_) (fun c18 => ?_)
      · try simp (disch := omega) only [nI_ltI, nI_leI, nI_eq, bI_0, Decidable.not_not, lc_lt, lc_gt, lc_ge, lc_le, lc_eq, i64_toInt] at c18
        try simp (disch := omega) only [cv_lt, cv_le, cv_eq, nI_toInt, cv_0] at c18
        first
        | omega
        | refine r_iload2 hR dX1_goingToday_50 ?_
          refine r_iret hR dX1_goingToday_51 ?_
          obtain rfl : i = S 3 := by omega
          exact ⟨rfl, rfl⟩
      · try simp (disch := omega) only [nI_ltI, nI_leI, nI_eq, bI_0, Decidable.not_not, lc_lt, lc_gt, lc_ge, lc_le, lc_eq, i64_toInt] at c18
        try simp (disch := omega) only [cv_lt, cv_le, cv_eq, nI_toInt, cv_0] at c18
        first
        | omega
        | refine r_aload0 hR dX1_goingToday_21 ?_
          refine r_get hR (by first | decide | assumption | (simp only [gcnt_4, gcnt_1, gcnt_2, gcnt_3, gcnt_12, gcnt_13, gcnt_16]; omega)) fl_X1_30 rfl rfl dX1_goingToday_22 ?_
          try simp only [h0, h2, h3, h4]
          refine r_iload3 hR dX1_goingToday_25 ?_
          refine r_aald hR (t0 := 3) (by first | decide | assumption | (simp only [gcnt_4, gcnt_1, gcnt_2, gcnt_3, gcnt_12, gcnt_13, gcnt_16]; omega)) rfl rfl rfl (by omega) (by decide) rfl dX1_goingToday_26 ?_
          refine r_iload1 hR dX1_goingToday_27 ?_
          refine r_aload0 hR dX1_goingToday_28 ?_
          refine r_get hR (by first | decide | assumption | (simp only [gcnt_4, gcnt_1, gcnt_2, gcnt_3, gcnt_12, gcnt_13, gcnt_16]; omega)) fl_X1_22 rfl rfl dX1_goingToday_29 ?_
          try simp only [h0, h2, h3, h4]
          refine r_cv2v hR kv_X1_79 (by decide) (t_X5_isGoing (by omega) (show _ = nI (S (11 + 4 * i)) from ht i (by omega) 0 (by decide)) (ht i (by omega) 2 (by decide)) (show _ < 6 by have := wt i (by omega); omega) (show _ < 8 by have := wt i (by omega); omega) (by have := blow_le (d := S 0) wr; omega) w1) (by first | decide | assumption | (simp only [gcnt_4, gcnt_1, gcnt_2, gcnt_3, gcnt_12, gcnt_13, gcnt_16]; omega)) rfl rfl (Nat.le_of_ble_eq_true rfl) dX1_goingToday_32 ?_
          refine r_if_eq hR 44 dX1_goingToday_35 (by decide) (fun c35 => ?_) (fun c35 => ?_)
          · try simp (disch := omega) only [nI_ltI, nI_leI, nI_eq, bI_0, Decidable.not_not, lc_lt, lc_gt, lc_ge, lc_le, lc_eq, i64_toInt] at c35
            try simp (disch := omega) only [cv_lt, cv_le, cv_eq, nI_toInt, cv_0] at c35
            first
            | omega
            | refine r_iinc3 hR (nI 1) (by decide) (fun _ h => by first | (cases h; rfl) | exact absurd h (by simp)) dX1_goingToday_44 ?_
              try rw [nI_add]
              refine r_goto hR 13 dX1_goingToday_47 (by decide) ?_
              have e : goP S (blow S (S 0)) (i + 1) = goP S (blow S (S 0)) i ||| (if goN (S (11 + 4 * i)) (S (11 + 4 * i + 2)) (S 1) (blow S (S 0)) then 2 ^ i else 0) := rfl
              first
              | (rw [if_pos c35] at e; rw [← e]; exact ih (i + 1) (by omega))
              | (rw [if_neg c35, Nat.or_zero] at e; rw [← e]; exact ih (i + 1) (by omega))
          · try simp (disch := omega) only [nI_ltI, nI_leI, nI_eq, bI_0, Decidable.not_not, lc_lt, lc_gt, lc_ge, lc_le, lc_eq, i64_toInt] at c35
            try simp (disch := omega) only [cv_lt, cv_le, cv_eq, nI_toInt, cv_0] at c35
            first
            | omega
            | refine r_iload2 hR dX1_goingToday_38 ?_
              refine r_iconst hR (nI 1) (by decide) dX1_goingToday_39 ?_
              refine r_iload3 hR dX1_goingToday_40 ?_
              refine r_ishl hR dX1_goingToday_41 ?_
              refine r_ior hR dX1_goingToday_42 ?_
              rw [shl_t i (by omega), nx_or]
              refine r_istore2 hR (fun _ h => by first | (cases h; rfl) | exact absurd h (by simp)) dX1_goingToday_43 ?_
              refine r_iinc3 hR (nI 1) (by decide) (fun _ h => by first | (cases h; rfl) | exact absurd h (by simp)) dX1_goingToday_44 ?_
              try rw [nI_add]
              refine r_goto hR 13 dX1_goingToday_47 (by decide) ?_
              have e : goP S (blow S (S 0)) (i + 1) = goP S (blow S (S 0)) i ||| (if goN (S (11 + 4 * i)) (S (11 + 4 * i + 2)) (S 1) (blow S (S 0)) then 2 ^ i else 0) := rfl
              first
              | (rw [if_pos c35] at e; rw [← e]; exact ih (i + 1) (by omega))
              | (rw [if_neg c35, Nat.or_zero] at e; rw [← e]; exact ih (i + 1) (by omega))
  refine r_aload0 hR dX1_goingToday_0 ?_
  refine r_aload0 hR dX1_goingToday_1 ?_
  refine r_get hR (by first | decide | assumption | (simp only [gcnt_4, gcnt_1, gcnt_2, gcnt_3, gcnt_12, gcnt_13, gcnt_16]; omega)) fl_X1_9 rfl rfl dX1_goingToday_2 ?_
  try simp only [h0, h2, h3, h4]
  refine r_cv1v hR kv_X1_71 (by decide) (t_X1_windOn hq h hwf (by omega)) (by first | decide | assumption | (simp only [gcnt_4, gcnt_1, gcnt_2, gcnt_3, gcnt_12, gcnt_13, gcnt_16]; omega)) rfl rfl (Nat.le_of_ble_eq_true rfl) dX1_goingToday_5 ?_
  refine r_istore1 hR (fun _ h => by first | (cases h; rfl) | exact absurd h (by simp)) dX1_goingToday_8 ?_
  refine r_iconst hR (nI 0) (by decide) dX1_goingToday_9 ?_
  refine r_istore2 hR (fun _ h => by first | (cases h; rfl) | exact absurd h (by simp)) dX1_goingToday_10 ?_
  refine r_iconst hR (nI 0) (by decide) dX1_goingToday_11 ?_
  refine r_istore3 hR (fun _ h => by first | (cases h; rfl) | exact absurd h (by simp)) dX1_goingToday_12 ?_
  exact L (S 3) 0 (by omega)

set_option maxHeartbeats 4000000 in
set_option maxRecDepth 100000 in
theorem t_X1_goDay {G : gG} {M : gM} {q : Nat} {S : Nat → Nat} (hq : q < 3) (h : seaP M q S) (hwf : wfS S) {w : Nat} (hw : w < 9) : Cf G mX1_goDay 4 [.ref (ad G 1 q), .int (nI w)] M none (putSea M q (dayW S w)) := by
  obtain ⟨h0, h2, h3, h4, hr, ht⟩ := id h
  obtain ⟨w0, w1, w2, w3, wr, wt⟩ := id hwf
  refine Ct.of (by decide +kernel) (k := 1) (ls0 := [some (.ref (ad G 1 q)), some (.int (nI w)), none]) rfl rfl (fun _ _ => trivial) ?_
  intro P hR
  have L : ∀ (j i : Nat), i + j = S 3 → P 2 [some (.ref (ad G 1 q)), some (.int (nI w)), some (.int (nI i))] [] (putSea M q (dayP S w i)) := by
    intro j
    induction j with
    | zero =>
      intro i  hij 
      have e3 : dayP S w i 3 = S 3 := dayP_ge (by omega)
      have hPi := putSea_P M q (dayP S w i)
      obtain ⟨g0, g2, g3, g4, gr, gt⟩ := id hPi
      rw [dayP_ge (by omega)] at g0 g2 g3
      rw [e3] at g4
      have gt0 : i < S 3 → _ := fun z => gt i (by omega) 0 (by decide)
      have gt1 : i < S 3 → _ := fun z => gt i (by omega) 1 (by decide)
      have gt2 : i < S 3 → _ := fun z => gt i (by omega) 2 (by decide)
      have gt3 : i < S 3 → _ := fun z => gt i (by omega) 3 (by decide)
      rw [dayP_ge (by omega)] at gt0 gt1 gt2 gt3
      rw [Nat.add_zero] at gt0
      refine r_iload2 hR dX1_goDay_2 ?_
      refine r_aload0 hR dX1_goDay_3 ?_
      refine r_get hR (by first | decide | assumption | (simp only [gcnt_4, gcnt_1, gcnt_2, gcnt_3, gcnt_12, gcnt_13, gcnt_16]; omega)) fl_X1_25 rfl rfl dX1_goDay_4 ?_
      try simp only [g0, g2, g3, g4]
      refine r_icmp_ge hR 34 dX1_goDay_7 (by decide) (fun c7 => ?_) (fun c7 => ?_)
      · try simp (disch := omega) only [nI_ltI, nI_leI, nI_eq, bI_0, Decidable.not_not, lc_lt, lc_gt, lc_ge, lc_le, lc_eq, i64_toInt] at c7
        try simp (disch := omega) only [cv_lt, cv_le, cv_eq, nI_toInt, cv_0] at c7
        first
        | omega
        | refine r_aload0 hR dX1_goDay_34 ?_
          refine r_dup hR rfl dX1_goDay_35 ?_
          refine r_get hR (by first | decide | assumption | (simp only [gcnt_4, gcnt_1, gcnt_2, gcnt_3, gcnt_12, gcnt_13, gcnt_16]; omega)) fl_X1_9 rfl rfl dX1_goDay_36 ?_
          try simp only [g0, g2, g3, g4]
          refine r_iconst hR (nI 1) (by decide) dX1_goDay_39 ?_
          refine r_iadd hR dX1_goDay_40 ?_
          try rw [nI_add]
          refine r_puti hR (by first | decide | assumption | (simp only [gcnt_4, gcnt_1, gcnt_2, gcnt_3, gcnt_12, gcnt_13, gcnt_16]; omega)) fp_X1_9 rfl rfl (Nat.le_of_ble_eq_true rfl) rfl rfl dX1_goDay_41 ?_
          refine r_vret hR dX1_goDay_44 ?_
          obtain rfl : i = S 3 := by omega
          refine ⟨rfl, ?_⟩
          rw [putSn_seti_0, dayW_P]
          show putSn M q (dayW S w) (dayP S w (S 3) 3) = putSn M q (dayW S w) (dayW S w 3)
          rw [e3, dayW_3]
      · try simp (disch := omega) only [nI_ltI, nI_leI, nI_eq, bI_0, Decidable.not_not, lc_lt, lc_gt, lc_ge, lc_le, lc_eq, i64_toInt] at c7
        try simp (disch := omega) only [cv_lt, cv_le, cv_eq, nI_toInt, cv_0] at c7
        first
        | omega
        | refine r_aload0 hR dX1_goDay_10 ?_
          refine r_get hR (by first | decide | assumption | (simp only [gcnt_4, gcnt_1, gcnt_2, gcnt_3, gcnt_12, gcnt_13, gcnt_16]; omega)) fl_X1_30 rfl rfl dX1_goDay_11 ?_
          try simp only [g0, g2, g3, g4]
          refine r_iload2 hR dX1_goDay_14 ?_
          refine r_aald hR (t0 := 3) (by first | decide | assumption | (simp only [gcnt_4, gcnt_1, gcnt_2, gcnt_3, gcnt_12, gcnt_13, gcnt_16]; omega)) rfl rfl rfl (by omega) (by decide) rfl dX1_goDay_15 ?_
          refine r_aload0 hR dX1_goDay_16 ?_
          refine r_get hR (by first | decide | assumption | (simp only [gcnt_4, gcnt_1, gcnt_2, gcnt_3, gcnt_12, gcnt_13, gcnt_16]; omega)) fl_X1_9 rfl rfl dX1_goDay_17 ?_
          try simp only [g0, g2, g3, g4]
          refine r_iload1 hR dX1_goDay_20 ?_
          refine r_aload0 hR dX1_goDay_21 ?_
          refine r_get hR (by first | decide | assumption | (simp only [gcnt_4, gcnt_1, gcnt_2, gcnt_3, gcnt_12, gcnt_13, gcnt_16]; omega)) fl_X1_22 rfl rfl dX1_goDay_22 ?_
          try simp only [g0, g2, g3, g4]
          refine r_cv3u hR kv_X1_83 (by decide) (t_X5_goDay (by omega) (gt0 (by omega)) (gt1 (by omega)) (gt2 (by omega)) (gt3 (by omega)) (show _ < 6 by have := wt i (by omega); omega) (show _ < 8 by have := wt i (by omega); omega) (by omega) w1 (by omega) (show _ < 36 by have := wt i (by omega); omega) (show _ ≤ 99999 by have := wt i (by omega); omega)) (by first | decide | assumption | (simp only [gcnt_4, gcnt_1, gcnt_2, gcnt_3, gcnt_12, gcnt_13, gcnt_16]; omega)) rfl rfl (Nat.le_of_ble_eq_true rfl) dX1_goDay_25 ?_
          refine r_iinc2 hR (nI 1) (by decide) (fun _ h => by first | (cases h; rfl) | exact absurd h (by simp)) dX1_goDay_28 ?_
          try rw [nI_add]
          refine r_goto hR 2 dX1_goDay_31 (by decide) ?_
          omega
    | succ j ih =>
      intro i  hij 
      have e3 : dayP S w i 3 = S 3 := dayP_ge (by omega)
      have hPi := putSea_P M q (dayP S w i)
      obtain ⟨g0, g2, g3, g4, gr, gt⟩ := id hPi
      rw [dayP_ge (by omega)] at g0 g2 g3
      rw [e3] at g4
      have gt0 : i < S 3 → _ := fun z => gt i (by omega) 0 (by decide)
      have gt1 : i < S 3 → _ := fun z => gt i (by omega) 1 (by decide)
      have gt2 : i < S 3 → _ := fun z => gt i (by omega) 2 (by decide)
      have gt3 : i < S 3 → _ := fun z => gt i (by omega) 3 (by decide)
      rw [dayP_ge (by omega)] at gt0 gt1 gt2 gt3
      rw [Nat.add_zero] at gt0
      refine r_iload2 hR dX1_goDay_2 ?_
      refine r_aload0 hR dX1_goDay_3 ?_
      refine r_get hR (by first | decide | assumption | (simp only [gcnt_4, gcnt_1, gcnt_2, gcnt_3, gcnt_12, gcnt_13, gcnt_16]; omega)) fl_X1_25 rfl rfl dX1_goDay_4 ?_
      try simp only [g0, g2, g3, g4]
      refine r_icmp_ge hR 34 dX1_goDay_7 (by decide) (fun c7 => ?_) (fun c7 => ?_)
      · try simp (disch := omega) only [nI_ltI, nI_leI, nI_eq, bI_0, Decidable.not_not, lc_lt, lc_gt, lc_ge, lc_le, lc_eq, i64_toInt] at c7
        try simp (disch := omega) only [cv_lt, cv_le, cv_eq, nI_toInt, cv_0] at c7
        first
        | omega
        | refine r_aload0 hR dX1_goDay_34 ?_
          refine r_dup hR rfl dX1_goDay_35 ?_
          refine r_get hR (by first | decide | assumption | (simp only [gcnt_4, gcnt_1, gcnt_2, gcnt_3, gcnt_12, gcnt_13, gcnt_16]; omega)) fl_X1_9 rfl rfl dX1_goDay_36 ?_
          try simp only [g0, g2, g3, g4]
          refine r_iconst hR (nI 1) (by decide) dX1_goDay_39 ?_
          refine r_iadd hR dX1_goDay_40 ?_
          try rw [nI_add]
          refine r_puti hR (by first | decide | assumption | (simp only [gcnt_4, gcnt_1, gcnt_2, gcnt_3, gcnt_12, gcnt_13, gcnt_16]; omega)) fp_X1_9 rfl rfl (Nat.le_of_ble_eq_true rfl) rfl rfl dX1_goDay_41 ?_
          refine r_vret hR dX1_goDay_44 ?_
          obtain rfl : i = S 3 := by omega
          refine ⟨rfl, ?_⟩
          rw [putSn_seti_0, dayW_P]
          show putSn M q (dayW S w) (dayP S w (S 3) 3) = putSn M q (dayW S w) (dayW S w 3)
          rw [e3, dayW_3]
      · try simp (disch := omega) only [nI_ltI, nI_leI, nI_eq, bI_0, Decidable.not_not, lc_lt, lc_gt, lc_ge, lc_le, lc_eq, i64_toInt] at c7
        try simp (disch := omega) only [cv_lt, cv_le, cv_eq, nI_toInt, cv_0] at c7
        first
        | omega
        | refine r_aload0 hR dX1_goDay_10 ?_
          refine r_get hR (by first | decide | assumption | (simp only [gcnt_4, gcnt_1, gcnt_2, gcnt_3, gcnt_12, gcnt_13, gcnt_16]; omega)) fl_X1_30 rfl rfl dX1_goDay_11 ?_
          try simp only [g0, g2, g3, g4]
          refine r_iload2 hR dX1_goDay_14 ?_
          refine r_aald hR (t0 := 3) (by first | decide | assumption | (simp only [gcnt_4, gcnt_1, gcnt_2, gcnt_3, gcnt_12, gcnt_13, gcnt_16]; omega)) rfl rfl rfl (by omega) (by decide) rfl dX1_goDay_15 ?_
          refine r_aload0 hR dX1_goDay_16 ?_
          refine r_get hR (by first | decide | assumption | (simp only [gcnt_4, gcnt_1, gcnt_2, gcnt_3, gcnt_12, gcnt_13, gcnt_16]; omega)) fl_X1_9 rfl rfl dX1_goDay_17 ?_
          try simp only [g0, g2, g3, g4]
          refine r_iload1 hR dX1_goDay_20 ?_
          refine r_aload0 hR dX1_goDay_21 ?_
          refine r_get hR (by first | decide | assumption | (simp only [gcnt_4, gcnt_1, gcnt_2, gcnt_3, gcnt_12, gcnt_13, gcnt_16]; omega)) fl_X1_22 rfl rfl dX1_goDay_22 ?_
          try simp only [g0, g2, g3, g4]
          refine r_cv3u hR kv_X1_83 (by decide) (t_X5_goDay (by omega) (gt0 (by omega)) (gt1 (by omega)) (gt2 (by omega)) (gt3 (by omega)) (show _ < 6 by have := wt i (by omega); omega) (show _ < 8 by have := wt i (by omega); omega) (by omega) w1 (by omega) (show _ < 36 by have := wt i (by omega); omega) (show _ ≤ 99999 by have := wt i (by omega); omega)) (by first | decide | assumption | (simp only [gcnt_4, gcnt_1, gcnt_2, gcnt_3, gcnt_12, gcnt_13, gcnt_16]; omega)) rfl rfl (Nat.le_of_ble_eq_true rfl) dX1_goDay_25 ?_
          refine r_iinc2 hR (nI 1) (by decide) (fun _ h => by first | (cases h; rfl) | exact absurd h (by simp)) dX1_goDay_28 ?_
          try rw [nI_add]
          refine r_goto hR 2 dX1_goDay_31 (by decide) ?_
          refine r_mem (M2 := putSea M q (dayP S w (i + 1))) ?_ (ih (i + 1) (by omega))
          rw [putSn_seti_t _ _ _ (by omega) (by decide), putSn_seti_t _ _ _ (by omega) (by decide), dayP_succ]
          show putSn M q (dayP S w (i + 1)) (dayP S w i 3) = putSn M q (dayP S w (i + 1)) (dayP S w (i + 1) 3)
          rw [e3, dayP_ge (by omega)]
  refine r_iconst hR (nI 0) (by decide) dX1_goDay_0 ?_
  refine r_istore2 hR (fun _ h => by first | (cases h; rfl) | exact absurd h (by simp)) dX1_goDay_1 ?_
  refine r_mem (M2 := putSea M q (dayP S w 0)) (by rw [dayP_0, putSn_id h]) ?_
  exact L (S 3) 0 (by omega)

set_option maxHeartbeats 4000000 in
set_option maxRecDepth 100000 in
theorem t_X1_gainIn {G : gG} {M : gM} {q : Nat} {S : Nat → Nat} (hq : q < 3) (h : seaP M q S) (hwf : wfS S) {n : Nat} (hn : n ≤ 60) (hd : S 0 + n < 20000) : Cf G mX1_gainIn 5 [.ref (ad G 1 q), .int (nI n)] M (some (.int (nI (sumsN (dayN n S) - sumsN S)))) (putSea M q (dayN n S)) := by
  obtain ⟨h0, h2, h3, h4, hr, ht⟩ := id h
  obtain ⟨w0, w1, w2, w3, wr, wt⟩ := id hwf
  refine Ct.of (by decide +kernel) (k := 2) (ls0 := [some (.ref (ad G 1 q)), some (.int (nI n)), none, none]) rfl rfl (fun _ _ => trivial) ?_
  intro P hR
  have L : ∀ (j i : Nat), i + j = n → P 7 [some (.ref (ad G 1 q)), some (.int (nI n)), some (.int (nI (sumsN S))), some (.int (nI i))] [] (putSea M q (dayN i S)) := by
    intro j
    induction j with
    | zero =>
      intro i  hij 
      have hPi := putSea_P M q (dayN i S)
      have wfi : wfS (dayN i S) := wf_dayN hwf (by omega)
      have e3 := dayN_3 i S
      have e0 := dayN_0 i S
      obtain ⟨g0, g2, g3, g4, gr, gt⟩ := id hPi
      have hsl := sumsN_le wfi
      refine r_iload3 hR dX1_gainIn_7 ?_
      refine r_iload1 hR dX1_gainIn_8 ?_
      refine r_icmp_ge hR 30 dX1_gainIn_9 (by decide) (fun c9 => ?_) (fun c9 => ?_)
      · try simp (disch := omega) only [nI_ltI, nI_leI, nI_eq, bI_0, Decidable.not_not, lc_lt, lc_gt, lc_ge, lc_le, lc_eq, i64_toInt] at c9
        try simp (disch := omega) only [cv_lt, cv_le, cv_eq, nI_toInt, cv_0] at c9
        first
        | omega
        | refine r_aload0 hR dX1_gainIn_30 ?_
          refine r_cv0v hR kv_X1_87 (by decide) (t_X1_sums hq hPi wfi) (by first | decide | assumption | (simp only [gcnt_4, gcnt_1, gcnt_2, gcnt_3, gcnt_12, gcnt_13, gcnt_16]; omega)) rfl rfl (Nat.le_of_ble_eq_true rfl) dX1_gainIn_31 ?_
          refine r_iload2 hR dX1_gainIn_34 ?_
          have hmn := sums_dayN (n := i) hwf (by omega)
          refine r_isubN hR hmn dX1_gainIn_35 ?_
          refine r_iret hR dX1_gainIn_36 ?_
          obtain rfl : i = n := by omega
          exact ⟨rfl, rfl⟩
      · try simp (disch := omega) only [nI_ltI, nI_leI, nI_eq, bI_0, Decidable.not_not, lc_lt, lc_gt, lc_ge, lc_le, lc_eq, i64_toInt] at c9
        try simp (disch := omega) only [cv_lt, cv_le, cv_eq, nI_toInt, cv_0] at c9
        first
        | omega
        | refine r_aload0 hR dX1_gainIn_12 ?_
          refine r_aload0 hR dX1_gainIn_13 ?_
          refine r_aload0 hR dX1_gainIn_14 ?_
          refine r_get hR (by first | decide | assumption | (simp only [gcnt_4, gcnt_1, gcnt_2, gcnt_3, gcnt_12, gcnt_13, gcnt_16]; omega)) fl_X1_9 rfl rfl dX1_gainIn_15 ?_
          try simp only [g0, g2, g3, g4]
          refine r_cv1v hR kv_X1_71 (by decide) (t_X1_windOn hq hPi wfi (by omega)) (by first | decide | assumption | (simp only [gcnt_4, gcnt_1, gcnt_2, gcnt_3, gcnt_12, gcnt_13, gcnt_16]; omega)) rfl rfl (Nat.le_of_ble_eq_true rfl) dX1_gainIn_18 ?_
          refine r_cv1u hR kv_X1_91 (by decide) (t_X1_goDay hq hPi wfi (by have := blow_le (S := dayN i S) (d := dayN i S 0) wfi.2.2.2.2.1; omega)) (by first | decide | assumption | (simp only [gcnt_4, gcnt_1, gcnt_2, gcnt_3, gcnt_12, gcnt_13, gcnt_16]; omega)) rfl rfl (Nat.le_of_ble_eq_true rfl) dX1_gainIn_21 ?_
          refine r_iinc3 hR (nI 1) (by decide) (fun _ h => by first | (cases h; rfl) | exact absurd h (by simp)) dX1_gainIn_24 ?_
          try rw [nI_add]
          refine r_goto hR 7 dX1_gainIn_27 (by decide) ?_
          omega
    | succ j ih =>
      intro i  hij 
      have hPi := putSea_P M q (dayN i S)
      have wfi : wfS (dayN i S) := wf_dayN hwf (by omega)
      have e3 := dayN_3 i S
      have e0 := dayN_0 i S
      obtain ⟨g0, g2, g3, g4, gr, gt⟩ := id hPi
      have hsl := sumsN_le wfi
      refine r_iload3 hR dX1_gainIn_7 ?_
      refine r_iload1 hR dX1_gainIn_8 ?_
      refine r_icmp_ge hR 30 dX1_gainIn_9 (by decide) (fun c9 => ?_) (fun c9 => ?_)
      · try simp (disch := omega) only [nI_ltI, nI_leI, nI_eq, bI_0, Decidable.not_not, lc_lt, lc_gt, lc_ge, lc_le, lc_eq, i64_toInt] at c9
        try simp (disch := omega) only [cv_lt, cv_le, cv_eq, nI_toInt, cv_0] at c9
        first
        | omega
        | refine r_aload0 hR dX1_gainIn_30 ?_
          refine r_cv0v hR kv_X1_87 (by decide) (t_X1_sums hq hPi wfi) (by first | decide | assumption | (simp only [gcnt_4, gcnt_1, gcnt_2, gcnt_3, gcnt_12, gcnt_13, gcnt_16]; omega)) rfl rfl (Nat.le_of_ble_eq_true rfl) dX1_gainIn_31 ?_
          refine r_iload2 hR dX1_gainIn_34 ?_
          have hmn := sums_dayN (n := i) hwf (by omega)
          refine r_isubN hR hmn dX1_gainIn_35 ?_
          refine r_iret hR dX1_gainIn_36 ?_
          obtain rfl : i = n := by omega
          exact ⟨rfl, rfl⟩
      · try simp (disch := omega) only [nI_ltI, nI_leI, nI_eq, bI_0, Decidable.not_not, lc_lt, lc_gt, lc_ge, lc_le, lc_eq, i64_toInt] at c9
        try simp (disch := omega) only [cv_lt, cv_le, cv_eq, nI_toInt, cv_0] at c9
        first
        | omega
        | refine r_aload0 hR dX1_gainIn_12 ?_
          refine r_aload0 hR dX1_gainIn_13 ?_
          refine r_aload0 hR dX1_gainIn_14 ?_
          refine r_get hR (by first | decide | assumption | (simp only [gcnt_4, gcnt_1, gcnt_2, gcnt_3, gcnt_12, gcnt_13, gcnt_16]; omega)) fl_X1_9 rfl rfl dX1_gainIn_15 ?_
          try simp only [g0, g2, g3, g4]
          refine r_cv1v hR kv_X1_71 (by decide) (t_X1_windOn hq hPi wfi (by omega)) (by first | decide | assumption | (simp only [gcnt_4, gcnt_1, gcnt_2, gcnt_3, gcnt_12, gcnt_13, gcnt_16]; omega)) rfl rfl (Nat.le_of_ble_eq_true rfl) dX1_gainIn_18 ?_
          refine r_cv1u hR kv_X1_91 (by decide) (t_X1_goDay hq hPi wfi (by have := blow_le (S := dayN i S) (d := dayN i S 0) wfi.2.2.2.2.1; omega)) (by first | decide | assumption | (simp only [gcnt_4, gcnt_1, gcnt_2, gcnt_3, gcnt_12, gcnt_13, gcnt_16]; omega)) rfl rfl (Nat.le_of_ble_eq_true rfl) dX1_gainIn_21 ?_
          refine r_iinc3 hR (nI 1) (by decide) (fun _ h => by first | (cases h; rfl) | exact absurd h (by simp)) dX1_gainIn_24 ?_
          try rw [nI_add]
          refine r_goto hR 7 dX1_gainIn_27 (by decide) ?_
          refine r_mem (M2 := putSea M q (dayN (i + 1) S)) ?_ (ih (i + 1) (by omega))
          exact putSn_put M q _ _ (by show dayN i S 3 ≤ dayN (i + 1) S 3; rw [dayN_3, dayN_3]; exact Nat.le_refl _)
  refine r_aload0 hR dX1_gainIn_0 ?_
  refine r_cv0v hR kv_X1_87 (by decide) (t_X1_sums hq h hwf) (by first | decide | assumption | (simp only [gcnt_4, gcnt_1, gcnt_2, gcnt_3, gcnt_12, gcnt_13, gcnt_16]; omega)) rfl rfl (Nat.le_of_ble_eq_true rfl) dX1_gainIn_1 ?_
  refine r_istore2 hR (fun _ h => by first | (cases h; rfl) | exact absurd h (by simp)) dX1_gainIn_4 ?_
  refine r_iconst hR (nI 0) (by decide) dX1_gainIn_5 ?_
  refine r_istore3 hR (fun _ h => by first | (cases h; rfl) | exact absurd h (by simp)) dX1_gainIn_6 ?_
  refine r_mem (M2 := putSea M q (dayN 0 S)) (putSn_id h).symm ?_
  exact L n 0 (by omega)

set_option maxHeartbeats 4000000 in
set_option maxRecDepth 100000 in
theorem t_X1_carry {G : gG} {M : gM} {q : Nat} {S : Nat → Nat} (hq : q < 3) (h : seaP M q S) (hwf : wfS S) {t k c f s a : Nat} (htt : t < 26) (hk : M.1 4 t 0 = nI k) (hc : M.1 4 t 1 = nI c) (hf : M.1 4 t 2 = nI f) (hs : M.1 4 t 3 = nI s) (hk6 : k < 6) (hf8 : f < 8) (hc36 : c < 36) (hs9 : s ≤ 99999) (ha : a < 1000) : Cf G mX1_carry 4 [.ref (ad G 1 q), .ref (ad G 4 t), .int (nI a)] M none (seti (seti M 4 t 3 (nI (sumN s (earN k f (S 1) (S 0 + a) (blow S (S 0 + a)))))) 4 t 1 (nI (wenN k f (S 1) c (blow S (S 0 + a))))) := by
  obtain ⟨h0, h2, h3, h4, hr, ht⟩ := id h
  obtain ⟨w0, w1, w2, w3, wr, wt⟩ := id hwf
  refine Ct.of (by decide +kernel) (k := 1) (ls0 := [some (.ref (ad G 1 q)), some (.ref (ad G 4 t)), some (.int (nI a)), none]) rfl rfl (fun _ _ => trivial) ?_
  intro P hR
  refine r_aload0 hR dX1_carry_0 ?_
  refine r_get hR (by first | decide | assumption | (simp only [gcnt_4, gcnt_1, gcnt_2, gcnt_3, gcnt_12, gcnt_13, gcnt_16]; omega)) fl_X1_9 rfl rfl dX1_carry_1 ?_
  try simp only [h0, h2, h3, h4]
  refine r_iload2 hR dX1_carry_4 ?_
  refine r_iadd hR dX1_carry_5 ?_
  try rw [nI_add]
  refine r_istore3 hR (fun _ h => by first | (cases h; rfl) | exact absurd h (by simp)) dX1_carry_6 ?_
  refine r_aload1 hR dX1_carry_7 ?_
  refine r_iload3 hR dX1_carry_8 ?_
  refine r_aload0 hR dX1_carry_9 ?_
  refine r_iload3 hR dX1_carry_10 ?_
  refine r_cv1v hR kv_X1_71 (by decide) (t_X1_windOn hq h hwf (by omega)) (by first | decide | assumption | (simp only [gcnt_4, gcnt_1, gcnt_2, gcnt_3, gcnt_12, gcnt_13, gcnt_16]; omega)) rfl rfl (Nat.le_of_ble_eq_true rfl) dX1_carry_11 ?_
  refine r_aload0 hR dX1_carry_14 ?_
  refine r_get hR (by first | decide | assumption | (simp only [gcnt_4, gcnt_1, gcnt_2, gcnt_3, gcnt_12, gcnt_13, gcnt_16]; omega)) fl_X1_22 rfl rfl dX1_carry_15 ?_
  try simp only [h0, h2, h3, h4]
  refine r_cv3u hR kv_X1_83 (by decide) (t_X5_goDay htt hk hc hf hs hk6 hf8 (by have := blow_le (d := S 0 + a) wr; omega) w1 (by omega) hc36 hs9) (by first | decide | assumption | (simp only [gcnt_4, gcnt_1, gcnt_2, gcnt_3, gcnt_12, gcnt_13, gcnt_16]; omega)) rfl rfl (Nat.le_of_ble_eq_true rfl) dX1_carry_18 ?_
  refine r_vret hR dX1_carry_21 ?_
  exact ⟨rfl, rfl⟩

set_option maxHeartbeats 4000000 in
set_option maxRecDepth 100000 in
theorem t_X1_add {G : gG} {M : gM} {q : Nat} {S : Nat → Nat} (hq : q < 3) (h : seaP M q S) {k c f : Nat} (h8 : S 3 < 8) : Cf G mX1_add 1 [.ref (ad G 1 q), .int (nI k), .int (nI c), .int (nI f)] M none (putSea M q (addS S k c f)) := by
  obtain ⟨h0, h2, h3, h4, hr, ht⟩ := id h
  refine Ct.of (by decide +kernel) (k := 1) (ls0 := [some (.ref (ad G 1 q)), some (.int (nI k)), some (.int (nI c)), some (.int (nI f)), none]) rfl rfl (fun _ _ => trivial) ?_
  intro P hR
  refine r_aload0 hR dX1_add_0 ?_
  refine r_cv0v hR kv_X1_45 (by decide) (t_X1_isFull hq h (by omega)) (by first | decide | assumption | (simp only [gcnt_4, gcnt_1, gcnt_2, gcnt_3, gcnt_12, gcnt_13, gcnt_16]; omega)) rfl rfl (Nat.le_of_ble_eq_true rfl) dX1_add_1 ?_
  refine r_if_eq hR 8 dX1_add_4 (by decide) (fun c4 => ?_) (fun c4 => ?_)
  · try simp (disch := omega) only [nI_ltI, nI_leI, nI_eq, bI_0, Decidable.not_not, lc_lt, lc_gt, lc_ge, lc_le, lc_eq, i64_toInt] at c4
    try simp (disch := omega) only [cv_lt, cv_le, cv_eq, nI_toInt, cv_0] at c4
    first
    | omega
    | refine r_aload0 hR dX1_add_8 ?_
      refine r_get hR (by first | decide | assumption | (simp only [gcnt_4, gcnt_1, gcnt_2, gcnt_3, gcnt_12, gcnt_13, gcnt_16]; omega)) fl_X1_30 rfl rfl dX1_add_9 ?_
      try simp only [h0, h2, h3, h4]
      refine r_aload0 hR dX1_add_12 ?_
      refine r_get hR (by first | decide | assumption | (simp only [gcnt_4, gcnt_1, gcnt_2, gcnt_3, gcnt_12, gcnt_13, gcnt_16]; omega)) fl_X1_25 rfl rfl dX1_add_13 ?_
      try simp only [h0, h2, h3, h4]
      refine r_aald hR (t0 := 3) (by first | decide | assumption | (simp only [gcnt_4, gcnt_1, gcnt_2, gcnt_3, gcnt_12, gcnt_13, gcnt_16]; omega)) rfl rfl rfl (by omega) (by decide) rfl dX1_add_16 ?_
      refine r_astore4 hR (fun _ h => by first | (cases h; rfl) | exact absurd h (by simp)) dX1_add_17 ?_
      refine r_aload4 hR dX1_add_19 ?_
      refine r_iload1 hR dX1_add_21 ?_
      refine r_puti hR (by first | decide | assumption | (simp only [gcnt_4, gcnt_1, gcnt_2, gcnt_3, gcnt_12, gcnt_13, gcnt_16]; omega)) fp_X1_49 rfl rfl (Nat.le_of_ble_eq_true rfl) rfl rfl dX1_add_22 ?_
      refine r_aload4 hR dX1_add_25 ?_
      refine r_iload2 hR dX1_add_27 ?_
      refine r_puti hR (by first | decide | assumption | (simp only [gcnt_4, gcnt_1, gcnt_2, gcnt_3, gcnt_12, gcnt_13, gcnt_16]; omega)) fp_X1_52 rfl rfl (Nat.le_of_ble_eq_true rfl) rfl rfl dX1_add_28 ?_
      refine r_aload4 hR dX1_add_31 ?_
      refine r_iload3 hR dX1_add_33 ?_
      refine r_puti hR (by first | decide | assumption | (simp only [gcnt_4, gcnt_1, gcnt_2, gcnt_3, gcnt_12, gcnt_13, gcnt_16]; omega)) fp_X1_55 rfl rfl (Nat.le_of_ble_eq_true rfl) rfl rfl dX1_add_34 ?_
      refine r_aload4 hR dX1_add_37 ?_
      refine r_iconst hR (nI 0) (by decide) dX1_add_39 ?_
      refine r_puti hR (by first | decide | assumption | (simp only [gcnt_4, gcnt_1, gcnt_2, gcnt_3, gcnt_12, gcnt_13, gcnt_16]; omega)) fp_X1_58 rfl rfl (Nat.le_of_ble_eq_true rfl) rfl rfl dX1_add_40 ?_
      refine r_aload0 hR dX1_add_43 ?_
      refine r_dup hR rfl dX1_add_44 ?_
      refine r_get hR (by first | decide | assumption | (simp only [gcnt_4, gcnt_1, gcnt_2, gcnt_3, gcnt_12, gcnt_13, gcnt_16]; omega)) fl_X1_25 rfl rfl dX1_add_45 ?_
      try simp only [h0, h2, h3, h4]
      refine r_nm (nI (S 3)) (by simp [seti_r, h4]) ?_
      refine r_iconst hR (nI 1) (by decide) dX1_add_48 ?_
      refine r_iadd hR dX1_add_49 ?_
      try rw [nI_add]
      refine r_puti hR (by first | decide | assumption | (simp only [gcnt_4, gcnt_1, gcnt_2, gcnt_3, gcnt_12, gcnt_13, gcnt_16]; omega)) fp_X1_25 rfl rfl (Nat.le_of_ble_eq_true rfl) rfl rfl dX1_add_50 ?_
      refine r_vret hR dX1_add_53 ?_
      exact ⟨rfl, addS_put h h8⟩
  · try simp (disch := omega) only [nI_ltI, nI_leI, nI_eq, bI_0, Decidable.not_not, lc_lt, lc_gt, lc_ge, lc_le, lc_eq, i64_toInt] at c4
    try simp (disch := omega) only [cv_lt, cv_le, cv_eq, nI_toInt, cv_0] at c4
    first
    | omega
    | refine r_vret hR dX1_add_7 ?_
      omega

set_option maxHeartbeats 4000000 in
set_option maxRecDepth 100000 in
theorem t_X1_become {G : gG} {M : gM} {q p : Nat} {S : Nat → Nat} (hq : q < 3) (hp : p < 3) (hpq : ¬ p = q) (h : seaP M p S) (w3 : S 3 ≤ 8) : Cf G mX1_become 2 [.ref (ad G 1 q), .ref (ad G 1 p)] M none (putSea M q S) := by
  obtain ⟨h0, h2, h3, h4, hr, ht⟩ := id h
  refine Ct.of (by decide +kernel) (k := 1) (ls0 := [some (.ref (ad G 1 q)), some (.ref (ad G 1 p)), none]) rfl rfl (fun _ _ => trivial) ?_
  intro P hR
  have L : ∀ (j i : Nat), i + j = S 3 → P 49 [some (.ref (ad G 1 q)), some (.ref (ad G 1 p)), some (.int (nI i))] [] (putSn M q S i) := by
    intro j
    induction j with
    | zero =>
      intro i  hij 
      obtain ⟨g0, g2, g3, g4, gr, gt⟩ := (seaP_far (M := M) (S := S) (n := i) (by omega : ¬ p = q) (by omega) w3).mpr h
      have b4 := putSn_c M q S i
      refine r_iload2 hR dX1_become_49 ?_
      refine r_aload0 hR dX1_become_50 ?_
      refine r_get hR (by first | decide | assumption | (simp only [gcnt_4, gcnt_1, gcnt_2, gcnt_3, gcnt_12, gcnt_13, gcnt_16]; omega)) fl_X1_25 rfl rfl dX1_become_51 ?_
      try simp only [b4]
      refine r_icmp_ge hR 78 dX1_become_54 (by decide) (fun c54 => ?_) (fun c54 => ?_)
      · try simp (disch := omega) only [nI_ltI, nI_leI, nI_eq, bI_0, Decidable.not_not, lc_lt, lc_gt, lc_ge, lc_le, lc_eq, i64_toInt] at c54
        try simp (disch := omega) only [cv_lt, cv_le, cv_eq, nI_toInt, cv_0] at c54
        first
        | omega
        | refine r_vret hR dX1_become_78 ?_
          obtain rfl : i = S 3 := by omega
          exact ⟨rfl, rfl⟩
      · try simp (disch := omega) only [nI_ltI, nI_leI, nI_eq, bI_0, Decidable.not_not, lc_lt, lc_gt, lc_ge, lc_le, lc_eq, i64_toInt] at c54
        try simp (disch := omega) only [cv_lt, cv_le, cv_eq, nI_toInt, cv_0] at c54
        first
        | omega
        | refine r_aload0 hR dX1_become_57 ?_
          refine r_get hR (by first | decide | assumption | (simp only [gcnt_4, gcnt_1, gcnt_2, gcnt_3, gcnt_12, gcnt_13, gcnt_16]; omega)) fl_X1_30 rfl rfl dX1_become_58 ?_
          try simp only [b4]
          refine r_iload2 hR dX1_become_61 ?_
          refine r_aald hR (t0 := 3) (by first | decide | assumption | (simp only [gcnt_4, gcnt_1, gcnt_2, gcnt_3, gcnt_12, gcnt_13, gcnt_16]; omega)) rfl rfl rfl (by omega) (by decide) rfl dX1_become_62 ?_
          refine r_aload1 hR dX1_become_63 ?_
          refine r_get hR (by first | decide | assumption | (simp only [gcnt_4, gcnt_1, gcnt_2, gcnt_3, gcnt_12, gcnt_13, gcnt_16]; omega)) fl_X1_30 rfl rfl dX1_become_64 ?_
          try simp only [b4]
          refine r_iload2 hR dX1_become_67 ?_
          refine r_aald hR (t0 := 3) (by first | decide | assumption | (simp only [gcnt_4, gcnt_1, gcnt_2, gcnt_3, gcnt_12, gcnt_13, gcnt_16]; omega)) rfl rfl rfl (by omega) (by decide) rfl dX1_become_68 ?_
          refine r_cv1u hR kv_X1_41 (by decide) (t_X5_become (by omega) (by omega)) (by first | decide | assumption | (simp only [gcnt_4, gcnt_1, gcnt_2, gcnt_3, gcnt_12, gcnt_13, gcnt_16]; omega)) rfl rfl (Nat.le_of_ble_eq_true rfl) dX1_become_69 ?_
          refine r_iinc2 hR (nI 1) (by decide) (fun _ h => by first | (cases h; rfl) | exact absurd h (by simp)) dX1_become_72 ?_
          try rw [nI_add]
          refine r_goto hR 49 dX1_become_75 (by decide) ?_
          omega
    | succ j ih =>
      intro i  hij 
      obtain ⟨g0, g2, g3, g4, gr, gt⟩ := (seaP_far (M := M) (S := S) (n := i) (by omega : ¬ p = q) (by omega) w3).mpr h
      have b4 := putSn_c M q S i
      refine r_iload2 hR dX1_become_49 ?_
      refine r_aload0 hR dX1_become_50 ?_
      refine r_get hR (by first | decide | assumption | (simp only [gcnt_4, gcnt_1, gcnt_2, gcnt_3, gcnt_12, gcnt_13, gcnt_16]; omega)) fl_X1_25 rfl rfl dX1_become_51 ?_
      try simp only [b4]
      refine r_icmp_ge hR 78 dX1_become_54 (by decide) (fun c54 => ?_) (fun c54 => ?_)
      · try simp (disch := omega) only [nI_ltI, nI_leI, nI_eq, bI_0, Decidable.not_not, lc_lt, lc_gt, lc_ge, lc_le, lc_eq, i64_toInt] at c54
        try simp (disch := omega) only [cv_lt, cv_le, cv_eq, nI_toInt, cv_0] at c54
        first
        | omega
        | refine r_vret hR dX1_become_78 ?_
          obtain rfl : i = S 3 := by omega
          exact ⟨rfl, rfl⟩
      · try simp (disch := omega) only [nI_ltI, nI_leI, nI_eq, bI_0, Decidable.not_not, lc_lt, lc_gt, lc_ge, lc_le, lc_eq, i64_toInt] at c54
        try simp (disch := omega) only [cv_lt, cv_le, cv_eq, nI_toInt, cv_0] at c54
        first
        | omega
        | refine r_aload0 hR dX1_become_57 ?_
          refine r_get hR (by first | decide | assumption | (simp only [gcnt_4, gcnt_1, gcnt_2, gcnt_3, gcnt_12, gcnt_13, gcnt_16]; omega)) fl_X1_30 rfl rfl dX1_become_58 ?_
          try simp only [b4]
          refine r_iload2 hR dX1_become_61 ?_
          refine r_aald hR (t0 := 3) (by first | decide | assumption | (simp only [gcnt_4, gcnt_1, gcnt_2, gcnt_3, gcnt_12, gcnt_13, gcnt_16]; omega)) rfl rfl rfl (by omega) (by decide) rfl dX1_become_62 ?_
          refine r_aload1 hR dX1_become_63 ?_
          refine r_get hR (by first | decide | assumption | (simp only [gcnt_4, gcnt_1, gcnt_2, gcnt_3, gcnt_12, gcnt_13, gcnt_16]; omega)) fl_X1_30 rfl rfl dX1_become_64 ?_
          try simp only [b4]
          refine r_iload2 hR dX1_become_67 ?_
          refine r_aald hR (t0 := 3) (by first | decide | assumption | (simp only [gcnt_4, gcnt_1, gcnt_2, gcnt_3, gcnt_12, gcnt_13, gcnt_16]; omega)) rfl rfl rfl (by omega) (by decide) rfl dX1_become_68 ?_
          refine r_cv1u hR kv_X1_41 (by decide) (t_X5_become (by omega) (by omega)) (by first | decide | assumption | (simp only [gcnt_4, gcnt_1, gcnt_2, gcnt_3, gcnt_12, gcnt_13, gcnt_16]; omega)) rfl rfl (Nat.le_of_ble_eq_true rfl) dX1_become_69 ?_
          refine r_iinc2 hR (nI 1) (by decide) (fun _ h => by first | (cases h; rfl) | exact absurd h (by simp)) dX1_become_72 ?_
          try rw [nI_add]
          refine r_goto hR 49 dX1_become_75 (by decide) ?_
          refine r_mem (M2 := putSn M q S (i + 1)) ?_ (ih (i + 1) (by omega))
          rw [gt i (by omega) 0 (by decide), gt i (by omega) 1 (by decide), gt i (by omega) 2 (by decide), gt i (by omega) 3 (by decide)]
          exact become_step M q S i
  refine r_aload0 hR dX1_become_0 ?_
  refine r_aload1 hR dX1_become_1 ?_
  refine r_get hR (by first | decide | assumption | (simp only [gcnt_4, gcnt_1, gcnt_2, gcnt_3, gcnt_12, gcnt_13, gcnt_16]; omega)) fl_X1_9 rfl rfl dX1_become_2 ?_
  try simp only [h0, h2, h3, h4]
  refine r_puti hR (by first | decide | assumption | (simp only [gcnt_4, gcnt_1, gcnt_2, gcnt_3, gcnt_12, gcnt_13, gcnt_16]; omega)) fp_X1_9 rfl rfl (Nat.le_of_ble_eq_true rfl) rfl rfl dX1_become_5 ?_
  refine r_aload1 hR dX1_become_8 ?_
  refine r_get hR (by first | decide | assumption | (simp only [gcnt_4, gcnt_1, gcnt_2, gcnt_3, gcnt_12, gcnt_13, gcnt_16]; omega)) fl_X1_15 rfl rfl dX1_become_9 ?_
  try simp only [h0, h2, h3, h4]
  refine r_iconst hR (nI 0) (by decide) dX1_become_12 ?_
  refine r_aload0 hR dX1_become_13 ?_
  refine r_get hR (by first | decide | assumption | (simp only [gcnt_4, gcnt_1, gcnt_2, gcnt_3, gcnt_12, gcnt_13, gcnt_16]; omega)) fl_X1_15 rfl rfl dX1_become_14 ?_
  try simp only [h0, h2, h3, h4]
  refine r_iconst hR (nI 0) (by decide) dX1_become_17 ?_
  refine r_bipush hR (nI 7) (by decide) dX1_become_18 ?_
  refine r_copyi hR ka_X1_35 (by decide) (by first | decide | (simp only [gcnt_2]; omega)) (by first | decide | (simp only [gcnt_2]; omega)) rfl (fun _ => rfl) rfl rfl rfl (by decide) (by decide) (by decide) (by decide) (Nat.le_of_ble_eq_true rfl) dX1_become_20 ?_
  refine r_aload0 hR dX1_become_23 ?_
  refine r_aload1 hR dX1_become_24 ?_
  refine r_get hR (by first | decide | assumption | (simp only [gcnt_4, gcnt_1, gcnt_2, gcnt_3, gcnt_12, gcnt_13, gcnt_16]; omega)) fl_X1_19 rfl rfl dX1_become_25 ?_
  try simp only [h0, h2, h3, h4]
  refine r_nm (nI (S 2)) (by simp [seti_r, setI, h2]) ?_
  refine r_puti hR (by first | decide | assumption | (simp only [gcnt_4, gcnt_1, gcnt_2, gcnt_3, gcnt_12, gcnt_13, gcnt_16]; omega)) fp_X1_19 rfl rfl (Nat.le_of_ble_eq_true rfl) rfl rfl dX1_become_28 ?_
  refine r_aload0 hR dX1_become_31 ?_
  refine r_aload1 hR dX1_become_32 ?_
  refine r_get hR (by first | decide | assumption | (simp only [gcnt_4, gcnt_1, gcnt_2, gcnt_3, gcnt_12, gcnt_13, gcnt_16]; omega)) fl_X1_22 rfl rfl dX1_become_33 ?_
  try simp only [h0, h2, h3, h4]
  refine r_nm (nI (S 1)) (by simp [seti_r, setI, h3]) ?_
  refine r_puti hR (by first | decide | assumption | (simp only [gcnt_4, gcnt_1, gcnt_2, gcnt_3, gcnt_12, gcnt_13, gcnt_16]; omega)) fp_X1_22 rfl rfl (Nat.le_of_ble_eq_true rfl) rfl rfl dX1_become_36 ?_
  refine r_aload0 hR dX1_become_39 ?_
  refine r_aload1 hR dX1_become_40 ?_
  refine r_get hR (by first | decide | assumption | (simp only [gcnt_4, gcnt_1, gcnt_2, gcnt_3, gcnt_12, gcnt_13, gcnt_16]; omega)) fl_X1_25 rfl rfl dX1_become_41 ?_
  try simp only [h0, h2, h3, h4]
  refine r_nm (nI (S 3)) (by simp [seti_r, setI, h4]) ?_
  refine r_puti hR (by first | decide | assumption | (simp only [gcnt_4, gcnt_1, gcnt_2, gcnt_3, gcnt_12, gcnt_13, gcnt_16]; omega)) fp_X1_25 rfl rfl (Nat.le_of_ble_eq_true rfl) rfl rfl dX1_become_44 ?_
  refine r_iconst hR (nI 0) (by decide) dX1_become_47 ?_
  refine r_istore2 hR (fun _ h => by first | (cases h; rfl) | exact absurd h (by simp)) dX1_become_48 ?_
  refine r_mem (M2 := putSn M q S 0) ?_ (L (S 3) 0 (by omega))
  exact become_head h0 hr

