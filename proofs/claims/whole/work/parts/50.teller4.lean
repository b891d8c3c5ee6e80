set_option maxHeartbeats 4000000 in
set_option maxRecDepth 100000 in
theorem t_X4_takesWord {G : gG} {M : gM} {T : Nat → Nat} {l : Nat} {L : Lx} (h : ctP M T l) (hL : isLx T l L) {w : Nat} (hw : w < 12) : Cf G mX4_takesWord 5 [.ref (ad G 10 0), .ref (gks G w)] (lcM M T l L) (some (.int (bI (L.1 = w)))) (if L.1 = w then lcM M T l (lexN T l L.2.2.1) else lcM M T l L) := by
  have hT := h.2.2.2
  have hB := isLx_B hT hL
  obtain ⟨b1, b2, b3, b4, b5, b6⟩ := id hB
  obtain ⟨k2, k0, k3⟩ := lx_k hL
  have kl := kC_le T l L.2.1
  have l2 := h.2.2.1
  refine Ct.of (by decide +kernel) (k := 0) (ls0 := [some (.ref (ad G 10 0)), some (.ref (gks G w))]) rfl rfl (fun _ _ => trivial) ?_
  intro P hR
  by_cases q : L.1 = w
  · rw [bI_t q, if_pos q] at hR
    refine r_aload0 hR dX4_takesWord_0 ?_
    refine r_get hR (by first | decide | assumption | (simp only [gcnt_4, gcnt_1, gcnt_2, gcnt_3, gcnt_12, gcnt_13, gcnt_16]; omega)) fl_X4_9 rfl rfl dX4_takesWord_1 ?_
    try simp only [lc_2, lc_3, lc_4]
    refine r_aload1 hR dX4_takesWord_4 ?_
    refine r_cv1v hR kv_X4_95 (by decide) (t_X3_isWord h hL hw) (by first | decide | assumption | (simp only [gcnt_4, gcnt_1, gcnt_2, gcnt_3, gcnt_12, gcnt_13, gcnt_16]; omega)) rfl rfl (Nat.le_of_ble_eq_true rfl) dX4_takesWord_5 ?_
    refine r_if_ne hR 13 dX4_takesWord_8 (by decide) (fun c8 => ?_) (fun c8 => ?_)
    · try simp (disch := omega) only [nI_ltI, nI_leI, nI_eq, bI_0, Decidable.not_not, lc_lt, lc_gt, lc_ge, lc_le, lc_eq, i64_toInt] at c8
      try simp (disch := omega) only [cv_lt, cv_le, cv_eq, nI_toInt, cv_0] at c8
      first
      | omega
      | refine r_aload0 hR dX4_takesWord_13 ?_
        refine r_get hR (by first | decide | assumption | (simp only [gcnt_4, gcnt_1, gcnt_2, gcnt_3, gcnt_12, gcnt_13, gcnt_16]; omega)) fl_X4_9 rfl rfl dX4_takesWord_14 ?_
        try simp only [lc_2, lc_3, lc_4]
        refine r_cv0u hR kv_X4_31 (by decide) (t_X3_nextToken (lc_ct h) (lc_4 _ _ _ _) b3) (by first | decide | assumption | (simp only [gcnt_4, gcnt_1, gcnt_2, gcnt_3, gcnt_12, gcnt_13, gcnt_16]; omega)) rfl rfl (Nat.le_of_ble_eq_true rfl) dX4_takesWord_17 ?_
        rw [lc_lc]
        refine r_iconst hR (nI 1) (by decide) dX4_takesWord_20 ?_
        refine r_zret hR dX4_takesWord_21 rfl ?_
        exact ⟨rfl, rfl⟩
    · try simp (disch := omega) only [nI_ltI, nI_leI, nI_eq, bI_0, Decidable.not_not, lc_lt, lc_gt, lc_ge, lc_le, lc_eq, i64_toInt] at c8
      try simp (disch := omega) only [cv_lt, cv_le, cv_eq, nI_toInt, cv_0] at c8
      first
      | omega
      | refine r_iconst hR (nI 0) (by decide) dX4_takesWord_11 ?_
        refine r_zret hR dX4_takesWord_12 rfl ?_
        omega
  · rw [bI_f q, if_neg q] at hR
    refine r_aload0 hR dX4_takesWord_0 ?_
    refine r_get hR (by first | decide | assumption | (simp only [gcnt_4, gcnt_1, gcnt_2, gcnt_3, gcnt_12, gcnt_13, gcnt_16]; omega)) fl_X4_9 rfl rfl dX4_takesWord_1 ?_
    try simp only [lc_2, lc_3, lc_4]
    refine r_aload1 hR dX4_takesWord_4 ?_
    refine r_cv1v hR kv_X4_95 (by decide) (t_X3_isWord h hL hw) (by first | decide | assumption | (simp only [gcnt_4, gcnt_1, gcnt_2, gcnt_3, gcnt_12, gcnt_13, gcnt_16]; omega)) rfl rfl (Nat.le_of_ble_eq_true rfl) dX4_takesWord_5 ?_
    refine r_if_ne hR 13 dX4_takesWord_8 (by decide) (fun c8 => ?_) (fun c8 => ?_)
    · try simp (disch := omega) only [nI_ltI, nI_leI, nI_eq, bI_0, Decidable.not_not, lc_lt, lc_gt, lc_ge, lc_le, lc_eq, i64_toInt] at c8
      try simp (disch := omega) only [cv_lt, cv_le, cv_eq, nI_toInt, cv_0] at c8
      first
      | omega
      | omega
    · try simp (disch := omega) only [nI_ltI, nI_leI, nI_eq, bI_0, Decidable.not_not, lc_lt, lc_gt, lc_ge, lc_le, lc_eq, i64_toInt] at c8
      try simp (disch := omega) only [cv_lt, cv_le, cv_eq, nI_toInt, cv_0] at c8
      first
      | omega
      | refine r_iconst hR (nI 0) (by decide) dX4_takesWord_11 ?_
        refine r_zret hR dX4_takesWord_12 rfl ?_
        exact ⟨rfl, rfl⟩


set_option maxHeartbeats 4000000 in
set_option maxRecDepth 100000 in
theorem t_X4_kindNamed {G : gG} {M : gM} {T : Nat → Nat} {l : Nat} {L : Lx} (h : ctP M T l) (hL : isLx T l L) : Cf G mX4_kindNamed 5 [.ref (ad G 10 0)] (lcM M T l L) (some (.int (if L.1 ≤ 5 then nI L.1 else -1))) (lcM M T l L) := by
  have hT := h.2.2.2
  have hB := isLx_B hT hL
  obtain ⟨b1, b2, b3, b4, b5, b6⟩ := id hB
  obtain ⟨k2, k0, k3⟩ := lx_k hL
  have kl := kC_le T l L.2.1
  have l2 := h.2.2.1
  refine Ct.of (by decide +kernel) (k := 1) (ls0 := [some (.ref (ad G 10 0)), none]) rfl rfl (fun _ _ => trivial) ?_
  intro P hR
  have L0 : ∀ (j k : Nat), k + j = 6 → k ≤ L.1 → P 2 [some (.ref (ad G 10 0)), some (.int (nI k))] [] (lcM M T l L) := by
    intro j
    induction j with
    | zero =>
      intro k  hij hkl
      refine r_iload1 hR dX4_kindNamed_2 ?_
      refine r_bipush hR (nI 6) (by decide) dX4_kindNamed_3 ?_
      refine r_icmp_ge hR 30 dX4_kindNamed_5 (by decide) (fun c5 => ?_) (fun c5 => ?_)
      · try simp (disch := omega) only [nI_ltI, nI_leI, nI_eq, bI_0, Decidable.not_not, lc_lt, lc_gt, lc_ge, lc_le, lc_eq, i64_toInt] at c5
        try simp (disch := omega) only [cv_lt, cv_le, cv_eq, nI_toInt, cv_0] at c5
        first
        | omega
        | refine r_iconst hR (-1) (by decide) dX4_kindNamed_30 ?_
          refine r_iret hR dX4_kindNamed_31 ?_
          exact ⟨by rw [if_neg (by omega)], rfl⟩
      · try simp (disch := omega) only [nI_ltI, nI_leI, nI_eq, bI_0, Decidable.not_not, lc_lt, lc_gt, lc_ge, lc_le, lc_eq, i64_toInt] at c5
        try simp (disch := omega) only [cv_lt, cv_le, cv_eq, nI_toInt, cv_0] at c5
        first
        | omega
        | refine r_aload0 hR dX4_kindNamed_8 ?_
          refine r_get hR (by first | decide | assumption | (simp only [gcnt_4, gcnt_1, gcnt_2, gcnt_3, gcnt_12, gcnt_13, gcnt_16]; omega)) fl_X4_9 rfl rfl dX4_kindNamed_9 ?_
          try simp only [lc_2, lc_3, lc_4]
          refine r_iload1 hR dX4_kindNamed_12 ?_
          refine r_cs1v hR ks_X4_91 (by decide) (t_X4_nameOf (by omega)) (Nat.le_of_ble_eq_true rfl) dX4_kindNamed_13 ?_
          refine r_cv1v hR kv_X4_95 (by decide) (t_X3_isWord h hL (w := k) (by omega)) (by first | decide | assumption | (simp only [gcnt_4, gcnt_1, gcnt_2, gcnt_3, gcnt_12, gcnt_13, gcnt_16]; omega)) rfl rfl (Nat.le_of_ble_eq_true rfl) dX4_kindNamed_16 ?_
          refine r_if_eq hR 24 dX4_kindNamed_19 (by decide) (fun c19 => ?_) (fun c19 => ?_)
          · try simp (disch := omega) only [nI_ltI, nI_leI, nI_eq, bI_0, Decidable.not_not, lc_lt, lc_gt, lc_ge, lc_le, lc_eq, i64_toInt] at c19
            try simp (disch := omega) only [cv_lt, cv_le, cv_eq, nI_toInt, cv_0] at c19
            first
            | omega
            | refine r_iinc1 hR (nI 1) (by decide) (fun _ h => by first | (cases h; rfl) | exact absurd h (by simp)) dX4_kindNamed_24 ?_
              try rw [nI_add]
              refine r_goto hR 2 dX4_kindNamed_27 (by decide) ?_
              omega
          · try simp (disch := omega) only [nI_ltI, nI_leI, nI_eq, bI_0, Decidable.not_not, lc_lt, lc_gt, lc_ge, lc_le, lc_eq, i64_toInt] at c19
            try simp (disch := omega) only [cv_lt, cv_le, cv_eq, nI_toInt, cv_0] at c19
            first
            | omega
            | refine r_iload1 hR dX4_kindNamed_22 ?_
              refine r_iret hR dX4_kindNamed_23 ?_
              exact ⟨by rw [if_pos (by omega), c19], rfl⟩
    | succ j ih =>
      intro k  hij hkl
      refine r_iload1 hR dX4_kindNamed_2 ?_
      refine r_bipush hR (nI 6) (by decide) dX4_kindNamed_3 ?_
      refine r_icmp_ge hR 30 dX4_kindNamed_5 (by decide) (fun c5 => ?_) (fun c5 => ?_)
      · try simp (disch := omega) only [nI_ltI, nI_leI, nI_eq, bI_0, Decidable.not_not, lc_lt, lc_gt, lc_ge, lc_le, lc_eq, i64_toInt] at c5
        try simp (disch := omega) only [cv_lt, cv_le, cv_eq, nI_toInt, cv_0] at c5
        first
        | omega
        | refine r_iconst hR (-1) (by decide) dX4_kindNamed_30 ?_
          refine r_iret hR dX4_kindNamed_31 ?_
          exact ⟨by rw [if_neg (by omega)], rfl⟩
      · try simp (disch := omega) only [nI_ltI, nI_leI, nI_eq, bI_0, Decidable.not_not, lc_lt, lc_gt, lc_ge, lc_le, lc_eq, i64_toInt] at c5
        try simp (disch := omega) only [cv_lt, cv_le, cv_eq, nI_toInt, cv_0] at c5
        first
        | omega
        | refine r_aload0 hR dX4_kindNamed_8 ?_
          refine r_get hR (by first | decide | assumption | (simp only [gcnt_4, gcnt_1, gcnt_2, gcnt_3, gcnt_12, gcnt_13, gcnt_16]; omega)) fl_X4_9 rfl rfl dX4_kindNamed_9 ?_
          try simp only [lc_2, lc_3, lc_4]
          refine r_iload1 hR dX4_kindNamed_12 ?_
          refine r_cs1v hR ks_X4_91 (by decide) (t_X4_nameOf (by omega)) (Nat.le_of_ble_eq_true rfl) dX4_kindNamed_13 ?_
          refine r_cv1v hR kv_X4_95 (by decide) (t_X3_isWord h hL (w := k) (by omega)) (by first | decide | assumption | (simp only [gcnt_4, gcnt_1, gcnt_2, gcnt_3, gcnt_12, gcnt_13, gcnt_16]; omega)) rfl rfl (Nat.le_of_ble_eq_true rfl) dX4_kindNamed_16 ?_
          refine r_if_eq hR 24 dX4_kindNamed_19 (by decide) (fun c19 => ?_) (fun c19 => ?_)
          · try simp (disch := omega) only [nI_ltI, nI_leI, nI_eq, bI_0, Decidable.not_not, lc_lt, lc_gt, lc_ge, lc_le, lc_eq, i64_toInt] at c19
            try simp (disch := omega) only [cv_lt, cv_le, cv_eq, nI_toInt, cv_0] at c19
            first
            | omega
            | refine r_iinc1 hR (nI 1) (by decide) (fun _ h => by first | (cases h; rfl) | exact absurd h (by simp)) dX4_kindNamed_24 ?_
              try rw [nI_add]
              refine r_goto hR 2 dX4_kindNamed_27 (by decide) ?_
              exact ih (k + 1) (by omega) (by omega)
          · try simp (disch := omega) only [nI_ltI, nI_leI, nI_eq, bI_0, Decidable.not_not, lc_lt, lc_gt, lc_ge, lc_le, lc_eq, i64_toInt] at c19
            try simp (disch := omega) only [cv_lt, cv_le, cv_eq, nI_toInt, cv_0] at c19
            first
            | omega
            | refine r_iload1 hR dX4_kindNamed_22 ?_
              refine r_iret hR dX4_kindNamed_23 ?_
              exact ⟨by rw [if_pos (by omega), c19], rfl⟩
  refine r_iconst hR (nI 0) (by decide) dX4_kindNamed_0 ?_
  refine r_istore1 hR (fun _ h => by first | (cases h; rfl) | exact absurd h (by simp)) dX4_kindNamed_1 ?_
  exact L0 6 0 rfl (Nat.zero_le _)


set_option maxHeartbeats 4000000 in
set_option maxRecDepth 100000 in
theorem t_X4_tellThing {G : gG} {M : gM} {T : Nat → Nat} {l : Nat} {L : Lx} (h : ctP M T l) (hL : isLx T l L) {S : Nat → Nat} (hS : seaP M 1 S) (hwf : wfS S) (k5 : L.1 ≤ 5) : Cf G mX4_tellThing 6 [.ref (ad G 10 0), .ref (ad G 1 1), .int (nI L.1)] (lcM M T l L) (some (.int (bI ((thiM T l S L).1 = 0)))) (lcM (putSea M 1 (thiM T l S L).2.1) T l (thiM T l S L).2.2) := by
  have hT := h.2.2.2
  have hB := isLx_B hT hL
  obtain ⟨b1, b2, b3, b4, b5, b6⟩ := id hB
  obtain ⟨k2, k0, k3⟩ := lx_k hL
  have kl := kC_le T l L.2.1
  have l2 := h.2.2.1
  refine Ct.of (by decide +kernel) (k := 2) (ls0 := [some (.ref (ad G 10 0)), some (.ref (ad G 1 1)), some (.int (nI L.1)), none, none]) rfl rfl (fun _ _ => trivial) ?_
  intro P hR
  obtain ⟨L1, e1⟩ : ∃ L1, L1 = lexN T l L.2.2.1 := ⟨_, rfl⟩
  have hL1 : isLx T l L1 := by rw [e1]; exact isLx_n hT hL
  have hB1 := isLx_B hT hL1
  have n1 := hB1.2.2.1
  have v1 := hB1.2.2.2.1
  have w1 := hB1.1
  have y1 := nI_toInt (n := L1.2.2.2) (by omega)
  obtain ⟨L2, e2⟩ : ∃ L2, L2 = lexN T l L1.2.2.1 := ⟨_, rfl⟩
  have hL2 : isLx T l L2 := by rw [e2]; exact isLx_n hT hL1
  have hB2 := isLx_B hT hL2
  have n2 := hB2.2.2.1
  have v2 := hB2.2.2.2.1
  have w2 := hB2.1
  have y2 := nI_toInt (n := L2.2.2.2) (by omega)
  obtain ⟨L3, e3⟩ : ∃ L3, L3 = lexN T l L2.2.2.1 := ⟨_, rfl⟩
  have hL3 : isLx T l L3 := by rw [e3]; exact isLx_n hT hL2
  have hB3 := isLx_B hT hL3
  have n3 := hB3.2.2.1
  have v3 := hB3.2.2.2.1
  have w3 := hB3.1
  have y3 := nI_toInt (n := L3.2.2.2) (by omega)
  obtain ⟨L4, e4⟩ : ∃ L4, L4 = lexN T l L3.2.2.1 := ⟨_, rfl⟩
  have hL4 : isLx T l L4 := by rw [e4]; exact isLx_n hT hL3
  have hB4 := isLx_B hT hL4
  have n4 := hB4.2.2.1
  have v4 := hB4.2.2.2.1
  have w4 := hB4.1
  have y4 := nI_toInt (n := L4.2.2.2) (by omega)
  obtain ⟨L5, e5⟩ : ∃ L5, L5 = lexN T l L4.2.2.1 := ⟨_, rfl⟩
  have hL5 : isLx T l L5 := by rw [e5]; exact isLx_n hT hL4
  have hB5 := isLx_B hT hL5
  have n5 := hB5.2.2.1
  have v5 := hB5.2.2.2.1
  have w5 := hB5.1
  have y5 := nI_toInt (n := L5.2.2.2) (by omega)
  have hm1 : (-1 : Int32).toInt = -1 := by decide
  have w3 := hwf.2.2.2.1
  refine r_aload1 hR dX4_tellThing_0 ?_
  refine r_cv0v hR kv_X4_64 (by decide) (t_X1_isFull (by decide) (lc_sea hS) w3) (by first | decide | assumption | (simp only [gcnt_4, gcnt_1, gcnt_2, gcnt_3, gcnt_12, gcnt_13, gcnt_16]; omega)) rfl rfl (Nat.le_of_ble_eq_true rfl) dX4_tellThing_1 ?_
  refine r_if_eq hR 9 dX4_tellThing_4 (by decide) (fun c4 => ?_) (fun c4 => ?_)
  · try simp (disch := omega) only [nI_ltI, nI_leI, nI_eq, bI_0, Decidable.not_not, lc_lt, lc_gt, lc_ge, lc_le, lc_eq, i64_toInt] at c4
    try simp (disch := omega) only [cv_lt, cv_le, cv_eq, nI_toInt, cv_0] at c4
    first
    | omega
    | refine r_aload0 hR dX4_tellThing_9 ?_
      refine r_get hR (by first | decide | assumption | (simp only [gcnt_4, gcnt_1, gcnt_2, gcnt_3, gcnt_12, gcnt_13, gcnt_16]; omega)) fl_X4_9 rfl rfl dX4_tellThing_10 ?_
      try simp only [lc_2, lc_3, lc_4]
      refine r_cv0u hR kv_X4_31 (by decide) (t_X3_nextToken (lc_ct h) (lc_4 _ _ _ _) b3) (by first | decide | assumption | (simp only [gcnt_4, gcnt_1, gcnt_2, gcnt_3, gcnt_12, gcnt_13, gcnt_16]; omega)) rfl rfl (Nat.le_of_ble_eq_true rfl) dX4_tellThing_13 ?_
      rw [lc_lc, ← e1]
      refine r_aload0 hR dX4_tellThing_16 ?_
      refine r_ldcS hR 6 (by decide) (by decide) dX4_tellThing_17 ?_
      refine r_cv1v hR kv_X4_44 (by decide) (t_X4_takesWord h hL1 (by decide)) (by first | decide | assumption | (simp only [gcnt_4, gcnt_1, gcnt_2, gcnt_3, gcnt_12, gcnt_13, gcnt_16]; omega)) rfl rfl (Nat.le_of_ble_eq_true rfl) dX4_tellThing_19 ?_
      refine r_if_ne hR 27 dX4_tellThing_22 (by decide) (fun c22 => ?_) (fun c22 => ?_)
      · try simp (disch := omega) only [nI_ltI, nI_leI, nI_eq, bI_0, Decidable.not_not, lc_lt, lc_gt, lc_ge, lc_le, lc_eq, i64_toInt] at c22
        try simp (disch := omega) only [cv_lt, cv_le, cv_eq, nI_toInt, cv_0] at c22
        first
        | omega
        | rw [if_pos c22, ← e2]
          by_cases q : isNum L2 35
          · have q2 := q.2
            refine r_aload0 hR dX4_tellThing_27 ?_
            refine r_bipush hR (nI 35) (by decide) dX4_tellThing_28 ?_
            refine r_cv1v hR kv_X4_72 (by decide) (t_X4_takenNumber h hL2 (by decide)) (by first | decide | assumption | (simp only [gcnt_4, gcnt_1, gcnt_2, gcnt_3, gcnt_12, gcnt_13, gcnt_16]; omega)) rfl rfl (Nat.le_of_ble_eq_true rfl) dX4_tellThing_30 ?_
            rw [if_pos q, if_pos q, ← e3]
            refine r_istore3 hR (fun _ h => by first | (cases h; rfl) | exact absurd h (by simp)) dX4_tellThing_33 ?_
            refine r_iload3 hR dX4_tellThing_34 ?_
            refine r_iconst hR (-1) (by decide) dX4_tellThing_35 ?_
            refine r_icmp_ne hR 41 dX4_tellThing_36 (by decide) (fun c36 => ?_) (fun c36 => ?_)
            · try simp (disch := omega) only [nI_ltI, nI_leI, nI_eq, bI_0, Decidable.not_not, lc_lt, lc_gt, lc_ge, lc_le, lc_eq, i64_toInt] at c36
              try simp (disch := omega) only [cv_lt, cv_le, cv_eq, nI_toInt, cv_0] at c36
              first
              | omega
              | refine r_iconst hR (nI 0) (by decide) dX4_tellThing_41 ?_
                refine r_istore4 hR (fun _ h => by first | (cases h; rfl) | exact absurd h (by simp)) dX4_tellThing_42 ?_
                refine r_aload0 hR dX4_tellThing_44 ?_
                refine r_ldcS hR 7 (by decide) (by decide) dX4_tellThing_45 ?_
                refine r_cv1v hR kv_X4_44 (by decide) (t_X4_takesWord h hL3 (by decide)) (by first | decide | assumption | (simp only [gcnt_4, gcnt_1, gcnt_2, gcnt_3, gcnt_12, gcnt_13, gcnt_16]; omega)) rfl rfl (Nat.le_of_ble_eq_true rfl) dX4_tellThing_47 ?_
                refine r_if_eq hR 61 dX4_tellThing_50 (by decide) (fun c50 => ?_) (fun c50 => ?_)
                · try simp (disch := omega) only [nI_ltI, nI_leI, nI_eq, bI_0, Decidable.not_not, lc_lt, lc_gt, lc_ge, lc_le, lc_eq, i64_toInt] at c50
                  try simp (disch := omega) only [cv_lt, cv_le, cv_eq, nI_toInt, cv_0] at c50
                  first
                  | omega
                  | rw [if_neg c50]
                    refine r_iload4 hR dX4_tellThing_61 ?_
                    refine r_iconst hR (-1) (by decide) dX4_tellThing_63 ?_
                    refine r_icmp_ne hR 69 dX4_tellThing_64 (by decide) (fun c64 => ?_) (fun c64 => ?_)
                    · try simp (disch := omega) only [nI_ltI, nI_leI, nI_eq, bI_0, Decidable.not_not, lc_lt, lc_gt, lc_ge, lc_le, lc_eq, i64_toInt] at c64
                      try simp (disch := omega) only [cv_lt, cv_le, cv_eq, nI_toInt, cv_0] at c64
                      first
                      | omega
                      | refine r_aload1 hR dX4_tellThing_69 ?_
                        refine r_iload2 hR dX4_tellThing_70 ?_
                        refine r_iload3 hR dX4_tellThing_71 ?_
                        refine r_iload4 hR dX4_tellThing_72 ?_
                        refine r_cv3u hR kv_X4_78 (by decide) (t_X1_add (by decide) (lc_sea hS) (by omega)) (by first | decide | assumption | (simp only [gcnt_4, gcnt_1, gcnt_2, gcnt_3, gcnt_12, gcnt_13, gcnt_16]; omega)) rfl rfl (Nat.le_of_ble_eq_true rfl) dX4_tellThing_74 ?_
                        rw [lc_put]
                        refine r_iconst hR (nI 1) (by decide) dX4_tellThing_77 ?_
                        refine r_zret hR dX4_tellThing_78 rfl ?_
                        have es : (thiM T l S L) = (0, addS S L.1 L2.2.2.2 0, L3) := by
                          unfold thiM
                          rw [if_neg c4, ← e1, if_pos c22, ← e2]
                          unfold thiC
                          rw [if_pos q, ← e3]
                          unfold thiF
                          rw [if_neg c50]
                        have h0 : (thiM T l S L).1 = 0 := by rw [es]
                        exact ⟨by rw [bI_t h0], by rw [es]⟩
                    · try simp (disch := omega) only [nI_ltI, nI_leI, nI_eq, bI_0, Decidable.not_not, lc_lt, lc_gt, lc_ge, lc_le, lc_eq, i64_toInt] at c64
                      try simp (disch := omega) only [cv_lt, cv_le, cv_eq, nI_toInt, cv_0] at c64
                      first
                      | omega
                      | refine r_iconst hR (nI 0) (by decide) dX4_tellThing_67 ?_
                        refine r_zret hR dX4_tellThing_68 rfl ?_
                        omega
                · try simp (disch := omega) only [nI_ltI, nI_leI, nI_eq, bI_0, Decidable.not_not, lc_lt, lc_gt, lc_ge, lc_le, lc_eq, i64_toInt] at c50
                  try simp (disch := omega) only [cv_lt, cv_le, cv_eq, nI_toInt, cv_0] at c50
                  first
                  | omega
                  | rw [if_pos c50, ← e4]
                    by_cases q7 : isNum L4 7
                    · have q72 := q7.2
                      refine r_aload0 hR dX4_tellThing_53 ?_
                      refine r_bipush hR (nI 7) (by decide) dX4_tellThing_54 ?_
                      refine r_cv1v hR kv_X4_72 (by decide) (t_X4_takenNumber h hL4 (by decide)) (by first | decide | assumption | (simp only [gcnt_4, gcnt_1, gcnt_2, gcnt_3, gcnt_12, gcnt_13, gcnt_16]; omega)) rfl rfl (Nat.le_of_ble_eq_true rfl) dX4_tellThing_56 ?_
                      rw [if_pos q7, if_pos q7, ← e5]
                      refine r_istore4 hR (fun _ h => by first | (cases h; rfl) | exact absurd h (by simp)) dX4_tellThing_59 ?_
                      refine r_iload4 hR dX4_tellThing_61 ?_
                      refine r_iconst hR (-1) (by decide) dX4_tellThing_63 ?_
                      refine r_icmp_ne hR 69 dX4_tellThing_64 (by decide) (fun c64 => ?_) (fun c64 => ?_)
                      · try simp (disch := omega) only [nI_ltI, nI_leI, nI_eq, bI_0, Decidable.not_not, lc_lt, lc_gt, lc_ge, lc_le, lc_eq, i64_toInt] at c64
                        try simp (disch := omega) only [cv_lt, cv_le, cv_eq, nI_toInt, cv_0] at c64
                        first
                        | omega
                        | refine r_aload1 hR dX4_tellThing_69 ?_
                          refine r_iload2 hR dX4_tellThing_70 ?_
                          refine r_iload3 hR dX4_tellThing_71 ?_
                          refine r_iload4 hR dX4_tellThing_72 ?_
                          refine r_cv3u hR kv_X4_78 (by decide) (t_X1_add (by decide) (lc_sea hS) (by omega)) (by first | decide | assumption | (simp only [gcnt_4, gcnt_1, gcnt_2, gcnt_3, gcnt_12, gcnt_13, gcnt_16]; omega)) rfl rfl (Nat.le_of_ble_eq_true rfl) dX4_tellThing_74 ?_
                          rw [lc_put]
                          refine r_iconst hR (nI 1) (by decide) dX4_tellThing_77 ?_
                          refine r_zret hR dX4_tellThing_78 rfl ?_
                          have es : (thiM T l S L) = (0, addS S L.1 L2.2.2.2 L4.2.2.2, L5) := by
                            unfold thiM
                            rw [if_neg c4, ← e1, if_pos c22, ← e2]
                            unfold thiC
                            rw [if_pos q, ← e3]
                            unfold thiF
                            rw [if_pos c50, ← e4, if_pos q7, ← e5]
                          have h0 : (thiM T l S L).1 = 0 := by rw [es]
                          exact ⟨by rw [bI_t h0], by rw [es]⟩
                      · try simp (disch := omega) only [nI_ltI, nI_leI, nI_eq, bI_0, Decidable.not_not, lc_lt, lc_gt, lc_ge, lc_le, lc_eq, i64_toInt] at c64
                        try simp (disch := omega) only [cv_lt, cv_le, cv_eq, nI_toInt, cv_0] at c64
                        first
                        | omega
                        | refine r_iconst hR (nI 0) (by decide) dX4_tellThing_67 ?_
                          refine r_zret hR dX4_tellThing_68 rfl ?_
                          omega
                    · skip
                      refine r_aload0 hR dX4_tellThing_53 ?_
                      refine r_bipush hR (nI 7) (by decide) dX4_tellThing_54 ?_
                      refine r_cv1v hR kv_X4_72 (by decide) (t_X4_takenNumber h hL4 (by decide)) (by first | decide | assumption | (simp only [gcnt_4, gcnt_1, gcnt_2, gcnt_3, gcnt_12, gcnt_13, gcnt_16]; omega)) rfl rfl (Nat.le_of_ble_eq_true rfl) dX4_tellThing_56 ?_
                      rw [if_neg q7, if_neg q7]
                      refine r_istore4 hR (fun _ h => by first | (cases h; rfl) | exact absurd h (by simp)) dX4_tellThing_59 ?_
                      refine r_iload4 hR dX4_tellThing_61 ?_
                      refine r_iconst hR (-1) (by decide) dX4_tellThing_63 ?_
                      refine r_icmp_ne hR 69 dX4_tellThing_64 (by decide) (fun c64 => absurd c64 (fun q => q rfl)) (fun c64 => ?_)
                      refine r_iconst hR (nI 0) (by decide) dX4_tellThing_67 ?_
                      refine r_zret hR dX4_tellThing_68 rfl ?_
                      have es : (thiM T l S L) = (1, S, L4) := by
                        unfold thiM
                        rw [if_neg c4, ← e1, if_pos c22, ← e2]
                        unfold thiC
                        rw [if_pos q, ← e3]
                        unfold thiF
                        rw [if_pos c50, ← e4, if_neg q7]
                      have h0 : ¬ (thiM T l S L).1 = 0 := by rw [es]; show ¬ (1 : Nat) = 0; decide
                      refine ⟨by rw [bI_f h0], ?_⟩
                      rw [es]
                      show _ = lcM (putSea M 1 S) T l L4
                      rw [putSn_id hS]
            · try simp (disch := omega) only [nI_ltI, nI_leI, nI_eq, bI_0, Decidable.not_not, lc_lt, lc_gt, lc_ge, lc_le, lc_eq, i64_toInt] at c36
              try simp (disch := omega) only [cv_lt, cv_le, cv_eq, nI_toInt, cv_0] at c36
              first
              | omega
              | refine r_iconst hR (nI 0) (by decide) dX4_tellThing_39 ?_
                refine r_zret hR dX4_tellThing_40 rfl ?_
                omega
          · skip
            refine r_aload0 hR dX4_tellThing_27 ?_
            refine r_bipush hR (nI 35) (by decide) dX4_tellThing_28 ?_
            refine r_cv1v hR kv_X4_72 (by decide) (t_X4_takenNumber h hL2 (by decide)) (by first | decide | assumption | (simp only [gcnt_4, gcnt_1, gcnt_2, gcnt_3, gcnt_12, gcnt_13, gcnt_16]; omega)) rfl rfl (Nat.le_of_ble_eq_true rfl) dX4_tellThing_30 ?_
            rw [if_neg q, if_neg q]
            refine r_istore3 hR (fun _ h => by first | (cases h; rfl) | exact absurd h (by simp)) dX4_tellThing_33 ?_
            refine r_iload3 hR dX4_tellThing_34 ?_
            refine r_iconst hR (-1) (by decide) dX4_tellThing_35 ?_
            refine r_icmp_ne hR 41 dX4_tellThing_36 (by decide) (fun c36 => absurd c36 (fun q => q rfl)) (fun c36 => ?_)
            refine r_iconst hR (nI 0) (by decide) dX4_tellThing_39 ?_
            refine r_zret hR dX4_tellThing_40 rfl ?_
            have es : (thiM T l S L) = (1, S, L2) := by
              unfold thiM
              rw [if_neg c4, ← e1, if_pos c22, ← e2]
              unfold thiC
              rw [if_neg q]
            have h0 : ¬ (thiM T l S L).1 = 0 := by rw [es]; show ¬ (1 : Nat) = 0; decide
            refine ⟨by rw [bI_f h0], ?_⟩
            rw [es]
            show _ = lcM (putSea M 1 S) T l L2
            rw [putSn_id hS]
      · try simp (disch := omega) only [nI_ltI, nI_leI, nI_eq, bI_0, Decidable.not_not, lc_lt, lc_gt, lc_ge, lc_le, lc_eq, i64_toInt] at c22
        try simp (disch := omega) only [cv_lt, cv_le, cv_eq, nI_toInt, cv_0] at c22
        first
        | omega
        | rw [if_neg c22]
          refine r_iconst hR (nI 0) (by decide) dX4_tellThing_25 ?_
          refine r_zret hR dX4_tellThing_26 rfl ?_
          have es : (thiM T l S L) = (1, S, L1) := by
            unfold thiM
            rw [if_neg c4, ← e1, if_neg c22]
          have h0 : ¬ (thiM T l S L).1 = 0 := by rw [es]; show ¬ (1 : Nat) = 0; decide
          refine ⟨by rw [bI_f h0], ?_⟩
          rw [es]
          show _ = lcM (putSea M 1 S) T l L1
          rw [putSn_id hS]
  · try simp (disch := omega) only [nI_ltI, nI_leI, nI_eq, bI_0, Decidable.not_not, lc_lt, lc_gt, lc_ge, lc_le, lc_eq, i64_toInt] at c4
    try simp (disch := omega) only [cv_lt, cv_le, cv_eq, nI_toInt, cv_0] at c4
    first
    | omega
    | refine r_iconst hR (nI 0) (by decide) dX4_tellThing_7 ?_
      refine r_zret hR dX4_tellThing_8 rfl ?_
      have es : (thiM T l S L) = (1, S, L) := by
        unfold thiM
        rw [if_pos c4]
      have h0 : ¬ (thiM T l S L).1 = 0 := by rw [es]; show ¬ (1 : Nat) = 0; decide
      refine ⟨by rw [bI_f h0], ?_⟩
      rw [es]
      show _ = lcM (putSea M 1 S) T l L
      rw [putSn_id hS]


