/-- a token of the tape -/
def isLx (T : Nat → Nat) (l : Nat) (L : Lx) : Prop := ∃ p, p ≤ l ∧ L = lexN T l p
theorem isLx_n {T : Nat → Nat} (hT : ∀ j, T j < 256) {l : Nat} {L : Lx} (h : isLx T l L) : isLx T l (lexN T l L.2.2.1) := by
  obtain ⟨p, hp, rfl⟩ := h
  exact ⟨_, (lexN_B hT hp).1.2.2.1, rfl⟩
theorem isLx_B {T : Nat → Nat} (hT : ∀ j, T j < 256) {l : Nat} {L : Lx} (h : isLx T l L) : lxB l L := by
  obtain ⟨p, hp, rfl⟩ := h
  exact (lexN_B hT hp).1
theorem isLx_b {T : Nat → Nat} {l : Nat} {L : Lx} (h : isLx T l L) : ∃ b, b ≤ l ∧ L = lexB T l b := by
  obtain ⟨p, hp, rfl⟩ := h
  exact ⟨run cSp T l p, (run_le hp).2, rfl⟩
theorem lexB_b (T : Nat → Nat) (l b : Nat) : (lexB T l b).2.1 = b := by
  unfold lexB
  (repeat' split) <;> rfl
theorem lx_k {T : Nat → Nat} {l : Nat} {L : Lx} (h : isLx T l L) : (kC T l L.2.1 = 2 ↔ L.1 = 20) ∧ (kC T l L.2.1 = 0 ↔ L.1 = 22) ∧ (kC T l L.2.1 = 3 ↔ L.1 = 21) := by
  obtain ⟨b, hb, rfl⟩ := isLx_b h
  rw [lexB_b]
  unfold lexB kC
  by_cases e : b = l
  · rw [if_pos e, if_pos e]; dsimp only; omega
  rw [if_neg e, if_neg e]
  have tl := tok_le (T b)
  by_cases e2 : cLe (T b) = true
  · rw [if_pos e2, tok_1.mpr e2]
    have w := word_le T b (run cLe T l b - b)
    have f := first_le (wIs T b (run cLe T l b - b)) 12 0
    dsimp only
    unfold wordOf
    split <;> omega
  rw [if_neg e2]
  by_cases e3 : cDi (T b) = true
  · rw [if_pos e3, tok_2.mpr e3]; dsimp only; omega
  rw [if_neg e3]
  dsimp only
  have n1 : ¬ tokC (T b) = 1 := fun z => e2 (tok_1.mp z)
  have n2 : ¬ tokC (T b) = 2 := fun z => e3 (tok_2.mp z)
  by_cases e4 : T b = 59
  · rw [if_pos e4, e4]
    have : tokC 59 = 3 := by decide
    omega
  · rw [if_neg e4]
    have : tokC (T b) = 4 := by
      rw [cLe_i] at e2
      rw [cDi_i] at e3
      unfold tokC
      rw [if_neg e2, if_neg e3, if_neg e4]
    omega
theorem lx_num {T : Nat → Nat} {l : Nat} {L : Lx} (h : isLx T l L) (h0 : L.1 = 20) : L.2.2.2 = valP T L.2.1 (L.2.2.1 - L.2.1) ∧ ∀ j, j < L.2.2.1 - L.2.1 → 48 ≤ T (L.2.1 + j) ∧ T (L.2.1 + j) ≤ 57 := by
  obtain ⟨b, hb, rfl⟩ := isLx_b h
  unfold lexB at h0 ⊢
  by_cases e : b = l
  · rw [if_pos e] at h0; exact absurd h0 (by show ¬ (22 : Nat) = 20; decide)
  rw [if_neg e] at h0 ⊢
  by_cases e2 : cLe (T b) = true
  · rw [if_pos e2] at h0
    have f := first_le (wIs T b (run cLe T l b - b)) 12 0
    have h0 : wordOf T b (run cLe T l b - b) = 20 := h0
    unfold wordOf at h0
    split at h0 <;> omega
  rw [if_neg e2] at h0 ⊢
  by_cases e3 : cDi (T b) = true
  · rw [if_pos e3]
    refine ⟨rfl, fun j hj => ?_⟩
    have hj : j < run cDi T l b - b := hj
    have := run_all (c := cDi) (T := T) (l := l) (l - b) b rfl (b + j) (by omega) (by omega)
    rw [cDi_i] at this
    exact this
  · rw [if_neg e3] at h0
    have h0 : (if T b = 59 then 21 else 23) = 20 := h0
    split at h0 <;> omega
theorem cM_cM (M : gM) (k b e k' b' e' : Nat) : cM (cM M k b e) k' b' e' = cM M k' b' e' := by
  unfold cM
  refine gM_ext (fun r i j => ?_) rfl
  simp only [seti_r]
  (repeat' split) <;> first | rfl | omega
theorem lc_lc (M : gM) (T : Nat → Nat) (l : Nat) (L L' : Lx) : lcM (lcM M T l L) T l L' = lcM M T l L' := cM_cM _ _ _ _ _ _ _
theorem kC_le (T : Nat → Nat) (l b : Nat) : kC T l b ≤ 4 := by
  unfold kC
  have := tok_le (T b)
  split <;> omega
theorem lc_ct {M : gM} {T : Nat → Nat} {l : Nat} {L : Lx} (h : ctP M T l) : ctP (lcM M T l L) T l := cM_ct h
theorem lc_2 (M : gM) (T : Nat → Nat) (l : Nat) (L : Lx) : (lcM M T l L).1 8 0 2 = nI (kC T l L.2.1) := cM_2 _ _ _ _
theorem lc_3 (M : gM) (T : Nat → Nat) (l : Nat) (L : Lx) : (lcM M T l L).1 8 0 3 = nI L.2.1 := cM_3 _ _ _ _
theorem lc_4 (M : gM) (T : Nat → Nat) (l : Nat) (L : Lx) : (lcM M T l L).1 8 0 4 = nI L.2.2.1 := cM_4 _ _ _ _
set_option maxHeartbeats 4000000 in
set_option maxRecDepth 100000 in
theorem t_X4_takenNumber {G : gG} {M : gM} {T : Nat → Nat} {l : Nat} {L : Lx} (h : ctP M T l) (hL : isLx T l L) {m : Nat} (hm : m < 100) : Cf G mX4_takenNumber 2 [.ref (ad G 10 0), .int (nI m)] (lcM M T l L) (some (.int (if isNum L m then nI L.2.2.2 else -1))) (if isNum L m then lcM M T l (lexN T l L.2.2.1) else lcM M T l L) := by
  have hT := h.2.2.2
  have hB := isLx_B hT hL
  obtain ⟨b1, b2, b3, b4, b5, b6⟩ := id hB
  obtain ⟨k2, k0, k3⟩ := lx_k hL
  have kl := kC_le T l L.2.1
  have l2 := h.2.2.1
  refine Ct.of (by decide +kernel) (k := 1) (ls0 := [some (.ref (ad G 10 0)), some (.int (nI m)), none]) rfl rfl (fun _ _ => trivial) ?_
  intro P hR
  by_cases q : isNum L m
  · skip
    have hv := valC_P (T := T) (b := L.2.1) (L.2.2.1 - L.2.1) (lx_num hL q.1).2
    have hvp := (lx_num hL q.1).1
    rw [← hvp] at hv
    have hve : valC T L.2.1 (L.2.2.1 - L.2.1) = L.2.2.2 := by have := q.2; omega
    have q1 := q.1
    have q2 := q.2
    rw [if_pos q, if_pos q] at hR
    refine r_aload0 hR dX4_takenNumber_0 ?_
    refine r_get hR (by first | decide | assumption | (simp only [gcnt_4, gcnt_1, gcnt_2, gcnt_3, gcnt_12, gcnt_13, gcnt_16]; omega)) fl_X4_9 rfl rfl dX4_takenNumber_1 ?_
    try simp only [lc_2, lc_3, lc_4]
    refine r_get hR (by first | decide | assumption | (simp only [gcnt_4, gcnt_1, gcnt_2, gcnt_3, gcnt_12, gcnt_13, gcnt_16]; omega)) fl_X4_28 rfl rfl dX4_takenNumber_4 ?_
    try simp only [lc_2, lc_3, lc_4]
    refine r_iconst hR (nI 2) (by decide) dX4_takenNumber_7 ?_
    refine r_icmp_ne hR 22 dX4_takenNumber_8 (by decide) (fun c8 => ?_) (fun c8 => ?_)
    · try simp (disch := omega) only [nI_ltI, nI_leI, nI_eq, bI_0, Decidable.not_not, lc_lt, lc_gt, lc_ge, lc_le, lc_eq, i64_toInt] at c8
      try simp (disch := omega) only [cv_lt, cv_le, cv_eq, nI_toInt, cv_0] at c8
      first
      | omega
      | refine r_iconst hR (-1) (by decide) dX4_takenNumber_22 ?_
        refine r_iret hR dX4_takenNumber_23 ?_
        omega
    · try simp (disch := omega) only [nI_ltI, nI_leI, nI_eq, bI_0, Decidable.not_not, lc_lt, lc_gt, lc_ge, lc_le, lc_eq, i64_toInt] at c8
      try simp (disch := omega) only [cv_lt, cv_le, cv_eq, nI_toInt, cv_0] at c8
      first
      | omega
      | refine r_aload0 hR dX4_takenNumber_11 ?_
        refine r_get hR (by first | decide | assumption | (simp only [gcnt_4, gcnt_1, gcnt_2, gcnt_3, gcnt_12, gcnt_13, gcnt_16]; omega)) fl_X4_9 rfl rfl dX4_takenNumber_12 ?_
        try simp only [lc_2, lc_3, lc_4]
        refine r_cv0v hR kv_X4_110 (by decide) (t_X3_number (lc_ct h) (lc_3 _ _ _ _) (lc_4 _ _ _ _) b5 b3 (lx_num hL q.1).2) (by first | decide | assumption | (simp only [gcnt_4, gcnt_1, gcnt_2, gcnt_3, gcnt_12, gcnt_13, gcnt_16]; omega)) rfl rfl (Nat.le_of_ble_eq_true rfl) dX4_takenNumber_15 ?_
        rw [hve]
        refine r_iload1 hR dX4_takenNumber_18 ?_
        refine r_icmp_le hR 24 dX4_takenNumber_19 (by decide) (fun c19 => ?_) (fun c19 => ?_)
        · try simp (disch := omega) only [nI_ltI, nI_leI, nI_eq, bI_0, Decidable.not_not, lc_lt, lc_gt, lc_ge, lc_le, lc_eq, i64_toInt] at c19
          try simp (disch := omega) only [cv_lt, cv_le, cv_eq, nI_toInt, cv_0] at c19
          first
          | omega
          | refine r_aload0 hR dX4_takenNumber_24 ?_
            refine r_get hR (by first | decide | assumption | (simp only [gcnt_4, gcnt_1, gcnt_2, gcnt_3, gcnt_12, gcnt_13, gcnt_16]; omega)) fl_X4_9 rfl rfl dX4_takenNumber_25 ?_
            try simp only [lc_2, lc_3, lc_4]
            refine r_cv0v hR kv_X4_110 (by decide) (t_X3_number (lc_ct h) (lc_3 _ _ _ _) (lc_4 _ _ _ _) b5 b3 (lx_num hL q.1).2) (by first | decide | assumption | (simp only [gcnt_4, gcnt_1, gcnt_2, gcnt_3, gcnt_12, gcnt_13, gcnt_16]; omega)) rfl rfl (Nat.le_of_ble_eq_true rfl) dX4_takenNumber_28 ?_
            rw [hve]
            refine r_istore2 hR (fun _ h => by first | (cases h; rfl) | exact absurd h (by simp)) dX4_takenNumber_31 ?_
            refine r_aload0 hR dX4_takenNumber_32 ?_
            refine r_get hR (by first | decide | assumption | (simp only [gcnt_4, gcnt_1, gcnt_2, gcnt_3, gcnt_12, gcnt_13, gcnt_16]; omega)) fl_X4_9 rfl rfl dX4_takenNumber_33 ?_
            try simp only [lc_2, lc_3, lc_4]
            refine r_cv0u hR kv_X4_31 (by decide) (t_X3_nextToken (lc_ct h) (lc_4 _ _ _ _) b3) (by first | decide | assumption | (simp only [gcnt_4, gcnt_1, gcnt_2, gcnt_3, gcnt_12, gcnt_13, gcnt_16]; omega)) rfl rfl (Nat.le_of_ble_eq_true rfl) dX4_takenNumber_36 ?_
            rw [lc_lc]
            refine r_iload2 hR dX4_takenNumber_39 ?_
            refine r_iret hR dX4_takenNumber_40 ?_
            exact ⟨rfl, rfl⟩
        · try simp (disch := omega) only [nI_ltI, nI_leI, nI_eq, bI_0, Decidable.not_not, lc_lt, lc_gt, lc_ge, lc_le, lc_eq, i64_toInt] at c19
          try simp (disch := omega) only [cv_lt, cv_le, cv_eq, nI_toInt, cv_0] at c19
          first
          | omega
          | refine r_iconst hR (-1) (by decide) dX4_takenNumber_22 ?_
            refine r_iret hR dX4_takenNumber_23 ?_
            omega
  · rw [if_neg q, if_neg q] at hR
    by_cases q1 : L.1 = 20
    · skip
      have hv := valC_P (T := T) (b := L.2.1) (L.2.2.1 - L.2.1) (lx_num hL q1).2
      have hvp := (lx_num hL q1).1
      rw [← hvp] at hv
      have hcl := valC_le T L.2.1 (L.2.2.1 - L.2.1)
      have hbig : m < valC T L.2.1 (L.2.2.1 - L.2.1) := by
        have : ¬ L.2.2.2 ≤ m := fun z => q ⟨q1, z⟩
        omega
      refine r_aload0 hR dX4_takenNumber_0 ?_
      refine r_get hR (by first | decide | assumption | (simp only [gcnt_4, gcnt_1, gcnt_2, gcnt_3, gcnt_12, gcnt_13, gcnt_16]; omega)) fl_X4_9 rfl rfl dX4_takenNumber_1 ?_
      try simp only [lc_2, lc_3, lc_4]
      refine r_get hR (by first | decide | assumption | (simp only [gcnt_4, gcnt_1, gcnt_2, gcnt_3, gcnt_12, gcnt_13, gcnt_16]; omega)) fl_X4_28 rfl rfl dX4_takenNumber_4 ?_
      try simp only [lc_2, lc_3, lc_4]
      refine r_iconst hR (nI 2) (by decide) dX4_takenNumber_7 ?_
      refine r_icmp_ne hR 22 dX4_takenNumber_8 (by decide) (fun c8 => ?_) (fun c8 => ?_)
      · try simp (disch := omega) only [nI_ltI, nI_leI, nI_eq, bI_0, Decidable.not_not, lc_lt, lc_gt, lc_ge, lc_le, lc_eq, i64_toInt] at c8
        try simp (disch := omega) only [cv_lt, cv_le, cv_eq, nI_toInt, cv_0] at c8
        first
        | omega
        | refine r_iconst hR (-1) (by decide) dX4_takenNumber_22 ?_
          refine r_iret hR dX4_takenNumber_23 ?_
          exact ⟨rfl, rfl⟩
      · try simp (disch := omega) only [nI_ltI, nI_leI, nI_eq, bI_0, Decidable.not_not, lc_lt, lc_gt, lc_ge, lc_le, lc_eq, i64_toInt] at c8
        try simp (disch := omega) only [cv_lt, cv_le, cv_eq, nI_toInt, cv_0] at c8
        first
        | omega
        | refine r_aload0 hR dX4_takenNumber_11 ?_
          refine r_get hR (by first | decide | assumption | (simp only [gcnt_4, gcnt_1, gcnt_2, gcnt_3, gcnt_12, gcnt_13, gcnt_16]; omega)) fl_X4_9 rfl rfl dX4_takenNumber_12 ?_
          try simp only [lc_2, lc_3, lc_4]
          refine r_cv0v hR kv_X4_110 (by decide) (t_X3_number (lc_ct h) (lc_3 _ _ _ _) (lc_4 _ _ _ _) b5 b3 (lx_num hL q1).2) (by first | decide | assumption | (simp only [gcnt_4, gcnt_1, gcnt_2, gcnt_3, gcnt_12, gcnt_13, gcnt_16]; omega)) rfl rfl (Nat.le_of_ble_eq_true rfl) dX4_takenNumber_15 ?_
          refine r_iload1 hR dX4_takenNumber_18 ?_
          refine r_icmp_le hR 24 dX4_takenNumber_19 (by decide) (fun c19 => ?_) (fun c19 => ?_)
          · try simp (disch := omega) only [nI_ltI, nI_leI, nI_eq, bI_0, Decidable.not_not, lc_lt, lc_gt, lc_ge, lc_le, lc_eq, i64_toInt] at c19
            try simp (disch := omega) only [cv_lt, cv_le, cv_eq, nI_toInt, cv_0] at c19
            first
            | omega
            | omega
          · try simp (disch := omega) only [nI_ltI, nI_leI, nI_eq, bI_0, Decidable.not_not, lc_lt, lc_gt, lc_ge, lc_le, lc_eq, i64_toInt] at c19
            try simp (disch := omega) only [cv_lt, cv_le, cv_eq, nI_toInt, cv_0] at c19
            first
            | omega
            | refine r_iconst hR (-1) (by decide) dX4_takenNumber_22 ?_
              refine r_iret hR dX4_takenNumber_23 ?_
              exact ⟨rfl, rfl⟩
    · skip
      refine r_aload0 hR dX4_takenNumber_0 ?_
      refine r_get hR (by first | decide | assumption | (simp only [gcnt_4, gcnt_1, gcnt_2, gcnt_3, gcnt_12, gcnt_13, gcnt_16]; omega)) fl_X4_9 rfl rfl dX4_takenNumber_1 ?_
      try simp only [lc_2, lc_3, lc_4]
      refine r_get hR (by first | decide | assumption | (simp only [gcnt_4, gcnt_1, gcnt_2, gcnt_3, gcnt_12, gcnt_13, gcnt_16]; omega)) fl_X4_28 rfl rfl dX4_takenNumber_4 ?_
      try simp only [lc_2, lc_3, lc_4]
      refine r_iconst hR (nI 2) (by decide) dX4_takenNumber_7 ?_
      refine r_icmp_ne hR 22 dX4_takenNumber_8 (by decide) (fun c8 => ?_) (fun c8 => ?_)
      · try simp (disch := omega) only [nI_ltI, nI_leI, nI_eq, bI_0, Decidable.not_not, lc_lt, lc_gt, lc_ge, lc_le, lc_eq, i64_toInt] at c8
        try simp (disch := omega) only [cv_lt, cv_le, cv_eq, nI_toInt, cv_0] at c8
        first
        | omega
        | refine r_iconst hR (-1) (by decide) dX4_takenNumber_22 ?_
          refine r_iret hR dX4_takenNumber_23 ?_
          exact ⟨rfl, rfl⟩
      · try simp (disch := omega) only [nI_ltI, nI_leI, nI_eq, bI_0, Decidable.not_not, lc_lt, lc_gt, lc_ge, lc_le, lc_eq, i64_toInt] at c8
        try simp (disch := omega) only [cv_lt, cv_le, cv_eq, nI_toInt, cv_0] at c8
        first
        | omega
        | omega


