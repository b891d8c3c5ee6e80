theorem wf_dayP {S : Nat → Nat} {w n : Nat} (h : wfS S) : wfS (dayP S w n) := by
  obtain ⟨w0, w1, w2, w3, wr, wt⟩ := id h
  have e0 : dayP S w n 0 = S 0 := dayP_ge (by omega)
  have e1 : dayP S w n 1 = S 1 := dayP_ge (by omega)
  have e2 : dayP S w n 2 = S 2 := dayP_ge (by omega)
  have e3 : dayP S w n 3 = S 3 := dayP_ge (by omega)
  refine ⟨by omega, by omega, by omega, by omega, fun d hd => by rw [dayP_ge (by omega)]; exact wr d hd, fun t ht => ?_⟩
  have q := wt t (by omega)
  have q1 : S (11 + 4 * t + 1) < 36 := q.2.1
  by_cases z : t < n
  · have e : ∀ x, 11 ≤ x → x < 11 + 4 * n → x < 11 + 4 * S 3 → dayP S w n x = dayW S w x := fun x a b c => by
      unfold dayP dayW
      rw [if_pos (show 11 ≤ x ∧ x < 11 + 4 * n from ⟨a, b⟩), if_neg (show ¬ x = 0 by omega), if_pos (show 11 ≤ x ∧ x < 11 + 4 * S 3 from ⟨a, c⟩)]
    rw [e _ (by omega) (by omega) (by omega), e _ (by omega) (by omega) (by omega), e _ (by omega) (by omega) (by omega), e _ (by omega) (by omega) (by omega), dayW_k (by omega), dayW_c (by omega), dayW_f (by omega), dayW_s (by omega)]
    exact ⟨q.1, wen_lt q1, q.2.2.1, sumN_le _ _⟩
  · rw [dayP_ge (by omega), dayP_ge (by omega), dayP_ge (by omega), dayP_ge (by omega)]
    exact q
theorem goes_f {S : Nat → Nat} {w i : Nat} (h : wfS S) (hi : i < S 3) : thg (dayP S w i) i 0 = thg S i 0 ∧ thg (dayP S w i) i 1 = thg S i 1 ∧ thg (dayP S w i) i 2 = thg S i 2 ∧ thg (dayP S w i) i 3 = thg S i 3 ∧ dayP S w i 0 = S 0 ∧ dayP S w i 1 = S 1 ∧ dayP S w i 3 = S 3 :=
  ⟨dayP_ge (by omega), dayP_ge (by omega), dayP_ge (by omega), dayP_ge (by omega), dayP_ge (by omega), dayP_ge (by omega), dayP_ge (by omega)⟩
theorem goes_g {S : Nat → Nat} {w i : Nat} (h : wfS S) (hi : i < S 3) {v : Nat} (hv : v ≤ 99999) {S1 : Nat → Nat} (e : va_up (dayP S w i) (11 + 4 * i + 3) v = S1) : wfS S1 ∧ thg S1 i 0 = thg S i 0 ∧ thg S1 i 1 = thg S i 1 ∧ thg S1 i 2 = thg S i 2 ∧ S1 1 = S 1 ∧ S1 3 = S 3 := by
  subst e
  have g := goes_f (w := w) h hi
  unfold thg at g
  unfold thg
  refine ⟨wf_th (wf_dayP h) (by omega) (by decide) (by omega), ?_, ?_, ?_, ?_, ?_⟩
  · rw [vu_o (by omega)]; exact g.1
  · rw [vu_o (by omega)]; exact g.2.1
  · rw [vu_o (by omega)]; exact g.2.2.1
  · rw [vu_o (by omega)]; exact g.2.2.2.2.2.1
  · rw [vu_o (by omega)]; exact g.2.2.2.2.2.2
set_option maxHeartbeats 4000000 in
set_option maxRecDepth 100000 in
theorem t_X8_wentTo {G : gG} {M : gM} {S : Nat → Nat} (h : rowP M 0 S) (hwf : wfS S) {t ce w : Nat} (ht : t < S 3) (hce : ce < 36) (hw : w < 9) : Cf G mX8_wentTo 3 [.ref (ad G 15 0), .int (nI t), .int (nI ce), .int (nI w)] M (some (.int (nI (wenN (thg S t 0) (thg S t 2) (S 1) ce w)))) M := by
  obtain ⟨w0, w1, w2, w3, wr, wt⟩ := id hwf
  have q0 : thg S t 0 < 6 := by have := wt t ht; unfold thg; rw [Nat.add_zero]; omega
  have q1 : thg S t 1 < 36 := by have := wt t ht; unfold thg; omega
  have q2 : thg S t 2 < 8 := by have := wt t ht; unfold thg; omega
  have q3 : thg S t 3 ≤ 99999 := by have := wt t ht; unfold thg; omega
  refine Ct.of (by decide +kernel) (k := 1) (ls0 := [some (.ref (ad G 15 0)), some (.int (nI t)), some (.int (nI ce)), some (.int (nI w)), none]) rfl rfl (fun _ _ => trivial) ?_
  intro P hR
  have J18 : ∀ x : Int32, (x.toInt < 0 → (wenN (thg S t 0) (thg S t 2) (S 1) ce w) = ce) → (¬ x.toInt < 0 → nI (wenN (thg S t 0) (thg S t 2) (S 1) ce w) = x) → P 18 [some (.ref (ad G 15 0)), some (.int (nI t)), some (.int (nI ce)), some (.int (nI w)), none] [.int x] M := by
    intro x ha hb
    refine r_istore4 hR (fun _ h => by first | (cases h; rfl) | exact absurd h (by simp)) dX8_wentTo_18 ?_
    refine r_iload4 hR dX8_wentTo_20 ?_
    refine r_if_ge hR 29 dX8_wentTo_22 (by decide) (fun c22 => ?_) (fun c22 => ?_)
    · try simp (disch := omega) only [nI_ltI, nI_leI, nI_eq, bI_0, Decidable.not_not, lc_lt, lc_gt, lc_ge, lc_le, lc_eq, i64_toInt] at c22
      try simp (disch := omega) only [cv_lt, cv_le, cv_eq, nI_toInt, cv_0] at c22
      first
      | omega
      | refine r_iload4 hR dX8_wentTo_29 ?_
        refine r_iret hR dX8_wentTo_31 ?_
        first
        | (rw [ha (by omega)]; exact ⟨rfl, rfl⟩)
        | (rw [hb (by omega)]; exact ⟨rfl, rfl⟩)
    · try simp (disch := omega) only [nI_ltI, nI_leI, nI_eq, bI_0, Decidable.not_not, lc_lt, lc_gt, lc_ge, lc_le, lc_eq, i64_toInt] at c22
      try simp (disch := omega) only [cv_lt, cv_le, cv_eq, nI_toInt, cv_0] at c22
      first
      | omega
      | refine r_iload2 hR dX8_wentTo_25 ?_
        refine r_goto hR 31 dX8_wentTo_26 (by decide) ?_
        refine r_iret hR dX8_wentTo_31 ?_
        first
        | (rw [ha (by omega)]; exact ⟨rfl, rfl⟩)
        | (rw [hb (by omega)]; exact ⟨rfl, rfl⟩)
  refine r_aload0 hR dX8_wentTo_0 ?_
  refine r_iload1 hR dX8_wentTo_1 ?_
  refine r_iload3 hR dX8_wentTo_2 ?_
  refine r_cv2v hR kv_X8_85 (by decide) (t_X8_doesGo h hwf ht hw) (by first | decide | assumption | (simp only [gcnt_4, gcnt_1, gcnt_2, gcnt_3, gcnt_12, gcnt_13, gcnt_16]; omega)) rfl rfl (Nat.le_of_ble_eq_true rfl) dX8_wentTo_3 ?_
  refine r_if_eq hR 17 dX8_wentTo_6 (by decide) (fun c6 => ?_) (fun c6 => ?_)
  · try simp (disch := omega) only [nI_ltI, nI_leI, nI_eq, bI_0, Decidable.not_not, lc_lt, lc_gt, lc_ge, lc_le, lc_eq, i64_toInt] at c6
    try simp (disch := omega) only [cv_lt, cv_le, cv_eq, nI_toInt, cv_0] at c6
    first
    | omega
    | refine r_iconst hR (-1) (by decide) dX8_wentTo_17 ?_
      refine J18 _ ?_ ?_
      · intro z
        unfold wenN
        first
        | rw [if_neg (fun q => c6 q.1)]
        | (refine if_neg (fun q => ?_)
           rw [if_pos q.2, nI_toInt (by omega)] at z
           omega)
      · intro z
        unfold wenN
        first
        | (exfalso; exact z (by decide))
        | (by_cases hb : bto ce w < 36
           · rw [if_pos ⟨c6, hb⟩, if_pos hb]
           · rw [if_neg hb] at z
             exact absurd (by decide) z)
  · try simp (disch := omega) only [nI_ltI, nI_leI, nI_eq, bI_0, Decidable.not_not, lc_lt, lc_gt, lc_ge, lc_le, lc_eq, i64_toInt] at c6
    try simp (disch := omega) only [cv_lt, cv_le, cv_eq, nI_toInt, cv_0] at c6
    first
    | omega
    | refine r_iload2 hR dX8_wentTo_9 ?_
      refine r_iload3 hR dX8_wentTo_10 ?_
      refine r_cs2v hR ks_X8_69 (by decide) (t_X8_blownTo hce (by have := c6.1; omega)) (Nat.le_of_ble_eq_true rfl) dX8_wentTo_11 ?_
      refine r_goto hR 18 dX8_wentTo_14 (by decide) ?_
      refine J18 _ ?_ ?_
      · intro z
        unfold wenN
        first
        | rw [if_neg (fun q => c6 q.1)]
        | (refine if_neg (fun q => ?_)
           rw [if_pos q.2, nI_toInt (by omega)] at z
           omega)
      · intro z
        unfold wenN
        first
        | (exfalso; exact z (by decide))
        | (by_cases hb : bto ce w < 36
           · rw [if_pos ⟨c6, hb⟩, if_pos hb]
           · rw [if_neg hb] at z
             exact absurd (by decide) z)

abbrev adM (M : gM) (n k c f : Nat) : gM := seti (seti (seti (seti (seti M 16 0 3 (nI (n + 1))) 16 0 (11 + 4 * n + 0) (nI k)) 16 0 (11 + 4 * n + 1) (nI c)) 16 0 (11 + 4 * n + 2) (nI f)) 16 0 (11 + 4 * n + 3) (nI 0)
set_option maxHeartbeats 4000000 in
set_option maxRecDepth 100000 in
theorem t_X8_comesAt {G : gG} {M : gM} {S : Nat → Nat} (h : rowP M 0 S) {k ce f : Nat} (h8 : S 3 < 8) : Cf G mX8_comesAt 1 [.ref (ad G 15 0), .int (nI k), .int (nI ce), .int (nI f)] M (some (.int (nI (S 3)))) (adM M (S 3) k ce f) := by
  refine Ct.of (by decide +kernel) (k := 1) (ls0 := [some (.ref (ad G 15 0)), some (.int (nI k)), some (.int (nI ce)), some (.int (nI f)), none]) rfl rfl (fun _ _ => trivial) ?_
  intro P hR
  refine r_aload0 hR dX8_comesAt_0 ?_
  refine r_get hR (by first | decide | assumption | (simp only [gcnt_4, gcnt_1, gcnt_2, gcnt_3, gcnt_12, gcnt_13, gcnt_16]; omega)) fl_X8_9 rfl rfl dX8_comesAt_1 ?_
  refine r_iconst hR (nI 3) (by decide) dX8_comesAt_4 ?_
  refine r_iald hR (by first | decide | assumption | (simp only [gcnt_4, gcnt_1, gcnt_2, gcnt_3, gcnt_12, gcnt_13, gcnt_16]; omega)) rfl rfl (by omega) (by decide) dX8_comesAt_5 ?_
  rw [h 3 (by omega)]
  refine r_istore4 hR (fun _ h => by first | (cases h; rfl) | exact absurd h (by simp)) dX8_comesAt_6 ?_
  refine r_aload0 hR dX8_comesAt_8 ?_
  refine r_get hR (by first | decide | assumption | (simp only [gcnt_4, gcnt_1, gcnt_2, gcnt_3, gcnt_12, gcnt_13, gcnt_16]; omega)) fl_X8_9 rfl rfl dX8_comesAt_9 ?_
  refine r_iconst hR (nI 3) (by decide) dX8_comesAt_12 ?_
  refine r_dup2 hR rfl rfl dX8_comesAt_13 ?_
  refine r_iald hR (by first | decide | assumption | (simp only [gcnt_4, gcnt_1, gcnt_2, gcnt_3, gcnt_12, gcnt_13, gcnt_16]; omega)) rfl rfl (by omega) (by decide) dX8_comesAt_14 ?_
  rw [h 3 (by omega)]
  refine r_iconst hR (nI 1) (by decide) dX8_comesAt_15 ?_
  refine r_iadd hR dX8_comesAt_16 ?_
  try rw [nI_add]
  refine r_iast hR (by first | decide | assumption | (simp only [gcnt_4, gcnt_1, gcnt_2, gcnt_3, gcnt_12, gcnt_13, gcnt_16]; omega)) (fun _ => rfl) rfl (by omega) (by decide) dX8_comesAt_17 ?_
  refine r_aload0 hR dX8_comesAt_18 ?_
  refine r_iload4 hR dX8_comesAt_19 ?_
  refine r_iconst hR (nI 0) (by decide) dX8_comesAt_21 ?_
  refine r_iload1 hR dX8_comesAt_22 ?_
  refine r_cv3u hR kv_X8_89 (by decide) (t_X8_put h8 (by decide)) (by first | decide | assumption | (simp only [gcnt_4, gcnt_1, gcnt_2, gcnt_3, gcnt_12, gcnt_13, gcnt_16]; omega)) rfl rfl (Nat.le_of_ble_eq_true rfl) dX8_comesAt_23 ?_
  refine r_aload0 hR dX8_comesAt_26 ?_
  refine r_iload4 hR dX8_comesAt_27 ?_
  refine r_iconst hR (nI 1) (by decide) dX8_comesAt_29 ?_
  refine r_iload2 hR dX8_comesAt_30 ?_
  refine r_cv3u hR kv_X8_89 (by decide) (t_X8_put h8 (by decide)) (by first | decide | assumption | (simp only [gcnt_4, gcnt_1, gcnt_2, gcnt_3, gcnt_12, gcnt_13, gcnt_16]; omega)) rfl rfl (Nat.le_of_ble_eq_true rfl) dX8_comesAt_31 ?_
  refine r_aload0 hR dX8_comesAt_34 ?_
  refine r_iload4 hR dX8_comesAt_35 ?_
  refine r_iconst hR (nI 2) (by decide) dX8_comesAt_37 ?_
  refine r_iload3 hR dX8_comesAt_38 ?_
  refine r_cv3u hR kv_X8_89 (by decide) (t_X8_put h8 (by decide)) (by first | decide | assumption | (simp only [gcnt_4, gcnt_1, gcnt_2, gcnt_3, gcnt_12, gcnt_13, gcnt_16]; omega)) rfl rfl (Nat.le_of_ble_eq_true rfl) dX8_comesAt_39 ?_
  refine r_aload0 hR dX8_comesAt_42 ?_
  refine r_iload4 hR dX8_comesAt_43 ?_
  refine r_iconst hR (nI 3) (by decide) dX8_comesAt_45 ?_
  refine r_iconst hR (nI 0) (by decide) dX8_comesAt_46 ?_
  refine r_cv3u hR kv_X8_89 (by decide) (t_X8_put h8 (by decide)) (by first | decide | assumption | (simp only [gcnt_4, gcnt_1, gcnt_2, gcnt_3, gcnt_12, gcnt_13, gcnt_16]; omega)) rfl rfl (Nat.le_of_ble_eq_true rfl) dX8_comesAt_47 ?_
  refine r_iload4 hR dX8_comesAt_50 ?_
  refine r_iret hR dX8_comesAt_52 ?_
  exact ⟨rfl, rfl⟩

set_option maxHeartbeats 4000000 in
set_option maxRecDepth 100000 in
theorem t_X8_goes {G : gG} {M : gM} {S : Nat → Nat} (h : rowP M 0 S) (hwf : wfS S) {w : Nat} (hw : w < 9) : Cf G mX8_goes 4 [.ref (ad G 15 0), .int (nI w)] M none (pm M (dayW S w)) := by
  obtain ⟨w0, w1, w2, w3, wr, wt⟩ := id hwf
  refine Ct.of (by decide +kernel) (k := 1) (ls0 := [some (.ref (ad G 15 0)), some (.int (nI w)), none]) rfl rfl (fun _ _ => trivial) ?_
  intro P hR
  have L : ∀ (j i : Nat), i + j = S 3 → P 2 [some (.ref (ad G 15 0)), some (.int (nI w)), some (.int (nI i))] [] (pm M (dayP S w i)) := by
    intro j
    induction j with
    | zero =>
      intro i  hij 
      have e3 : dayP S w i 3 = S 3 := dayP_ge (by omega)
      have e0 : dayP S w i 0 = S 0 := dayP_ge (by omega)
      have hP := rowP_pm M (dayP S w i)
      have hW : wfS (dayP S w i) := wf_dayP hwf
      refine r_iload2 hR dX8_goes_2 ?_
      refine r_aload0 hR dX8_goes_3 ?_
      refine r_get hR (by first | decide | assumption | (simp only [gcnt_4, gcnt_1, gcnt_2, gcnt_3, gcnt_12, gcnt_13, gcnt_16]; omega)) fl_X8_9 rfl rfl dX8_goes_4 ?_
      refine r_iconst hR (nI 3) (by decide) dX8_goes_7 ?_
      refine r_iald hR (by first | decide | assumption | (simp only [gcnt_4, gcnt_1, gcnt_2, gcnt_3, gcnt_12, gcnt_13, gcnt_16]; omega)) rfl rfl (by omega) (by decide) dX8_goes_8 ?_
      rw [hP 3 (by omega), e3]
      refine r_icmp_ge hR 61 dX8_goes_9 (by decide) (fun c9 => ?_) (fun c9 => ?_)
      · try simp (disch := omega) only [nI_ltI, nI_leI, nI_eq, bI_0, Decidable.not_not, lc_lt, lc_gt, lc_ge, lc_le, lc_eq, i64_toInt] at c9
        try simp (disch := omega) only [cv_lt, cv_le, cv_eq, nI_toInt, cv_0] at c9
        first
        | omega
        | refine r_aload0 hR dX8_goes_61 ?_
          refine r_get hR (by first | decide | assumption | (simp only [gcnt_4, gcnt_1, gcnt_2, gcnt_3, gcnt_12, gcnt_13, gcnt_16]; omega)) fl_X8_9 rfl rfl dX8_goes_62 ?_
          refine r_iconst hR (nI 0) (by decide) dX8_goes_65 ?_
          refine r_dup2 hR rfl rfl dX8_goes_66 ?_
          refine r_iald hR (by first | decide | assumption | (simp only [gcnt_4, gcnt_1, gcnt_2, gcnt_3, gcnt_12, gcnt_13, gcnt_16]; omega)) rfl rfl (by omega) (by decide) dX8_goes_67 ?_
          rw [hP 0 (by omega), e0]
          refine r_iconst hR (nI 1) (by decide) dX8_goes_68 ?_
          refine r_iadd hR dX8_goes_69 ?_
          try rw [nI_add]
          refine r_iast hR (by first | decide | assumption | (simp only [gcnt_4, gcnt_1, gcnt_2, gcnt_3, gcnt_12, gcnt_13, gcnt_16]; omega)) (fun _ => rfl) rfl (by omega) (by decide) dX8_goes_70 ?_
          refine r_vret hR dX8_goes_71 ?_
          first
          | (obtain rfl : i = S 3 := by omega
             refine ⟨rfl, ?_⟩
             rw [pm_seti M _ (by omega) (by omega), dayW_P])
          | omega
      · try simp (disch := omega) only [nI_ltI, nI_leI, nI_eq, bI_0, Decidable.not_not, lc_lt, lc_gt, lc_ge, lc_le, lc_eq, i64_toInt] at c9
        try simp (disch := omega) only [cv_lt, cv_le, cv_eq, nI_toInt, cv_0] at c9
        first
        | omega
        | obtain ⟨g0, g1, g2, g3, -, g5, -⟩ := goes_f (w := w) hwf (i := i) (by omega)
          have q1 : thg S i 1 < 36 := by have := wt i (by omega); unfold thg; omega
          have q3 : thg S i 3 ≤ 99999 := by have := wt i (by omega); unfold thg; omega
          have qe := ear_le (k := thg S i 0) (f := thg S i 2) (day := S 0) (w := w) w1
          obtain ⟨S1, hS1⟩ : ∃ S1, va_up (dayP S w i) (11 + 4 * i + 3) (sumN (thg S i 3) (earN (thg S i 0) (thg S i 2) (S 1) (S 0) w)) = S1 := ⟨_, rfl⟩
          obtain ⟨f0, f1, f2, f3, f4, f5⟩ := goes_g hwf (by omega) (sumN_le _ _) hS1
          have hQ := rowP_pm M S1
          refine r_aload0 hR dX8_goes_12 ?_
          refine r_iload2 hR dX8_goes_13 ?_
          refine r_iconst hR (nI 3) (by decide) dX8_goes_14 ?_
          refine r_aload0 hR dX8_goes_15 ?_
          refine r_iload2 hR dX8_goes_16 ?_
          refine r_iconst hR (nI 3) (by decide) dX8_goes_17 ?_
          refine r_cv2v hR kv_X8_75 (by decide) (t_X8_it hP (by omega) (by decide) (by omega)) (by first | decide | assumption | (simp only [gcnt_4, gcnt_1, gcnt_2, gcnt_3, gcnt_12, gcnt_13, gcnt_16]; omega)) rfl rfl (Nat.le_of_ble_eq_true rfl) dX8_goes_18 ?_
          rw [g3]
          refine r_aload0 hR dX8_goes_21 ?_
          refine r_iload2 hR dX8_goes_22 ?_
          refine r_iload1 hR dX8_goes_23 ?_
          refine r_cv2v hR kv_X8_100 (by decide) (t_X8_earns hP hW (by omega) hw) (by first | decide | assumption | (simp only [gcnt_4, gcnt_1, gcnt_2, gcnt_3, gcnt_12, gcnt_13, gcnt_16]; omega)) rfl rfl (Nat.le_of_ble_eq_true rfl) dX8_goes_24 ?_
          rw [g0, g2, g5, e0]
          refine r_iadd hR dX8_goes_27 ?_
          try rw [nI_add]
          refine r_iconst hR (nI 0) (by decide) dX8_goes_28 ?_
          refine r_ldcN hR ct_X8_103 99999 (by decide) dX8_goes_29 ?_
          refine r_cs3v hR ks_X8_81 (by decide) (t_X8_held) (Nat.le_of_ble_eq_true rfl) dX8_goes_31 ?_
          refine r_nm (nI (sumN (thg S i 3) (earN (thg S i 0) (thg S i 2) (S 1) (S 0) w))) (heldS (by omega)) ?_
          refine r_cv3u hR kv_X8_89 (by decide) (t_X8_put (by omega) (by decide)) (by first | decide | assumption | (simp only [gcnt_4, gcnt_1, gcnt_2, gcnt_3, gcnt_12, gcnt_13, gcnt_16]; omega)) rfl rfl (Nat.le_of_ble_eq_true rfl) dX8_goes_34 ?_
          rw [pm_seti M (dayP S w i) (by omega) (by omega), hS1]
          refine r_aload0 hR dX8_goes_37 ?_
          refine r_iload2 hR dX8_goes_38 ?_
          refine r_iconst hR (nI 1) (by decide) dX8_goes_39 ?_
          refine r_aload0 hR dX8_goes_40 ?_
          refine r_iload2 hR dX8_goes_41 ?_
          refine r_aload0 hR dX8_goes_42 ?_
          refine r_iload2 hR dX8_goes_43 ?_
          refine r_iconst hR (nI 1) (by decide) dX8_goes_44 ?_
          refine r_cv2v hR kv_X8_75 (by decide) (t_X8_it hQ (by omega) (by decide) (by omega)) (by first | decide | assumption | (simp only [gcnt_4, gcnt_1, gcnt_2, gcnt_3, gcnt_12, gcnt_13, gcnt_16]; omega)) rfl rfl (Nat.le_of_ble_eq_true rfl) dX8_goes_45 ?_
          rw [f2]
          refine r_iload1 hR dX8_goes_48 ?_
          refine r_cv3v hR kv_X8_105 (by decide) (t_X8_wentTo hQ f0 (by omega) q1 hw) (by first | decide | assumption | (simp only [gcnt_4, gcnt_1, gcnt_2, gcnt_3, gcnt_12, gcnt_13, gcnt_16]; omega)) rfl rfl (Nat.le_of_ble_eq_true rfl) dX8_goes_49 ?_
          rw [f1, f3, f4]
          refine r_cv3u hR kv_X8_89 (by decide) (t_X8_put (by omega) (by decide)) (by first | decide | assumption | (simp only [gcnt_4, gcnt_1, gcnt_2, gcnt_3, gcnt_12, gcnt_13, gcnt_16]; omega)) rfl rfl (Nat.le_of_ble_eq_true rfl) dX8_goes_52 ?_
          rw [pm_seti M S1 (by omega) (by omega)]
          refine r_iinc2 hR (nI 1) (by decide) (fun _ h => by first | (cases h; rfl) | exact absurd h (by simp)) dX8_goes_55 ?_
          try rw [nI_add]
          refine r_goto hR 2 dX8_goes_58 (by decide) ?_
          omega
    | succ j ih =>
      intro i  hij 
      have e3 : dayP S w i 3 = S 3 := dayP_ge (by omega)
      have e0 : dayP S w i 0 = S 0 := dayP_ge (by omega)
      have hP := rowP_pm M (dayP S w i)
      have hW : wfS (dayP S w i) := wf_dayP hwf
      refine r_iload2 hR dX8_goes_2 ?_
      refine r_aload0 hR dX8_goes_3 ?_
      refine r_get hR (by first | decide | assumption | (simp only [gcnt_4, gcnt_1, gcnt_2, gcnt_3, gcnt_12, gcnt_13, gcnt_16]; omega)) fl_X8_9 rfl rfl dX8_goes_4 ?_
      refine r_iconst hR (nI 3) (by decide) dX8_goes_7 ?_
      refine r_iald hR (by first | decide | assumption | (simp only [gcnt_4, gcnt_1, gcnt_2, gcnt_3, gcnt_12, gcnt_13, gcnt_16]; omega)) rfl rfl (by omega) (by decide) dX8_goes_8 ?_
      rw [hP 3 (by omega), e3]
      refine r_icmp_ge hR 61 dX8_goes_9 (by decide) (fun c9 => ?_) (fun c9 => ?_)
      · try simp (disch := omega) only [nI_ltI, nI_leI, nI_eq, bI_0, Decidable.not_not, lc_lt, lc_gt, lc_ge, lc_le, lc_eq, i64_toInt] at c9
        try simp (disch := omega) only [cv_lt, cv_le, cv_eq, nI_toInt, cv_0] at c9
        first
        | omega
        | refine r_aload0 hR dX8_goes_61 ?_
          refine r_get hR (by first | decide | assumption | (simp only [gcnt_4, gcnt_1, gcnt_2, gcnt_3, gcnt_12, gcnt_13, gcnt_16]; omega)) fl_X8_9 rfl rfl dX8_goes_62 ?_
          refine r_iconst hR (nI 0) (by decide) dX8_goes_65 ?_
          refine r_dup2 hR rfl rfl dX8_goes_66 ?_
          refine r_iald hR (by first | decide | assumption | (simp only [gcnt_4, gcnt_1, gcnt_2, gcnt_3, gcnt_12, gcnt_13, gcnt_16]; omega)) rfl rfl (by omega) (by decide) dX8_goes_67 ?_
          rw [hP 0 (by omega), e0]
          refine r_iconst hR (nI 1) (by decide) dX8_goes_68 ?_
          refine r_iadd hR dX8_goes_69 ?_
          try rw [nI_add]
          refine r_iast hR (by first | decide | assumption | (simp only [gcnt_4, gcnt_1, gcnt_2, gcnt_3, gcnt_12, gcnt_13, gcnt_16]; omega)) (fun _ => rfl) rfl (by omega) (by decide) dX8_goes_70 ?_
          refine r_vret hR dX8_goes_71 ?_
          first
          | (obtain rfl : i = S 3 := by omega
             refine ⟨rfl, ?_⟩
             rw [pm_seti M _ (by omega) (by omega), dayW_P])
          | omega
      · try simp (disch := omega) only [nI_ltI, nI_leI, nI_eq, bI_0, Decidable.not_not, lc_lt, lc_gt, lc_ge, lc_le, lc_eq, i64_toInt] at c9
        try simp (disch := omega) only [cv_lt, cv_le, cv_eq, nI_toInt, cv_0] at c9
        first
        | omega
        | obtain ⟨g0, g1, g2, g3, -, g5, -⟩ := goes_f (w := w) hwf (i := i) (by omega)
          have q1 : thg S i 1 < 36 := by have := wt i (by omega); unfold thg; omega
          have q3 : thg S i 3 ≤ 99999 := by have := wt i (by omega); unfold thg; omega
          have qe := ear_le (k := thg S i 0) (f := thg S i 2) (day := S 0) (w := w) w1
          obtain ⟨S1, hS1⟩ : ∃ S1, va_up (dayP S w i) (11 + 4 * i + 3) (sumN (thg S i 3) (earN (thg S i 0) (thg S i 2) (S 1) (S 0) w)) = S1 := ⟨_, rfl⟩
          obtain ⟨f0, f1, f2, f3, f4, f5⟩ := goes_g hwf (by omega) (sumN_le _ _) hS1
          have hQ := rowP_pm M S1
          refine r_aload0 hR dX8_goes_12 ?_
          refine r_iload2 hR dX8_goes_13 ?_
          refine r_iconst hR (nI 3) (by decide) dX8_goes_14 ?_
          refine r_aload0 hR dX8_goes_15 ?_
          refine r_iload2 hR dX8_goes_16 ?_
          refine r_iconst hR (nI 3) (by decide) dX8_goes_17 ?_
          refine r_cv2v hR kv_X8_75 (by decide) (t_X8_it hP (by omega) (by decide) (by omega)) (by first | decide | assumption | (simp only [gcnt_4, gcnt_1, gcnt_2, gcnt_3, gcnt_12, gcnt_13, gcnt_16]; omega)) rfl rfl (Nat.le_of_ble_eq_true rfl) dX8_goes_18 ?_
          rw [g3]
          refine r_aload0 hR dX8_goes_21 ?_
          refine r_iload2 hR dX8_goes_22 ?_
          refine r_iload1 hR dX8_goes_23 ?_
          refine r_cv2v hR kv_X8_100 (by decide) (t_X8_earns hP hW (by omega) hw) (by first | decide | assumption | (simp only [gcnt_4, gcnt_1, gcnt_2, gcnt_3, gcnt_12, gcnt_13, gcnt_16]; omega)) rfl rfl (Nat.le_of_ble_eq_true rfl) dX8_goes_24 ?_
          rw [g0, g2, g5, e0]
          refine r_iadd hR dX8_goes_27 ?_
          try rw [nI_add]
          refine r_iconst hR (nI 0) (by decide) dX8_goes_28 ?_
          refine r_ldcN hR ct_X8_103 99999 (by decide) dX8_goes_29 ?_
          refine r_cs3v hR ks_X8_81 (by decide) (t_X8_held) (Nat.le_of_ble_eq_true rfl) dX8_goes_31 ?_
          refine r_nm (nI (sumN (thg S i 3) (earN (thg S i 0) (thg S i 2) (S 1) (S 0) w))) (heldS (by omega)) ?_
          refine r_cv3u hR kv_X8_89 (by decide) (t_X8_put (by omega) (by decide)) (by first | decide | assumption | (simp only [gcnt_4, gcnt_1, gcnt_2, gcnt_3, gcnt_12, gcnt_13, gcnt_16]; omega)) rfl rfl (Nat.le_of_ble_eq_true rfl) dX8_goes_34 ?_
          rw [pm_seti M (dayP S w i) (by omega) (by omega), hS1]
          refine r_aload0 hR dX8_goes_37 ?_
          refine r_iload2 hR dX8_goes_38 ?_
          refine r_iconst hR (nI 1) (by decide) dX8_goes_39 ?_
          refine r_aload0 hR dX8_goes_40 ?_
          refine r_iload2 hR dX8_goes_41 ?_
          refine r_aload0 hR dX8_goes_42 ?_
          refine r_iload2 hR dX8_goes_43 ?_
          refine r_iconst hR (nI 1) (by decide) dX8_goes_44 ?_
          refine r_cv2v hR kv_X8_75 (by decide) (t_X8_it hQ (by omega) (by decide) (by omega)) (by first | decide | assumption | (simp only [gcnt_4, gcnt_1, gcnt_2, gcnt_3, gcnt_12, gcnt_13, gcnt_16]; omega)) rfl rfl (Nat.le_of_ble_eq_true rfl) dX8_goes_45 ?_
          rw [f2]
          refine r_iload1 hR dX8_goes_48 ?_
          refine r_cv3v hR kv_X8_105 (by decide) (t_X8_wentTo hQ f0 (by omega) q1 hw) (by first | decide | assumption | (simp only [gcnt_4, gcnt_1, gcnt_2, gcnt_3, gcnt_12, gcnt_13, gcnt_16]; omega)) rfl rfl (Nat.le_of_ble_eq_true rfl) dX8_goes_49 ?_
          rw [f1, f3, f4]
          refine r_cv3u hR kv_X8_89 (by decide) (t_X8_put (by omega) (by decide)) (by first | decide | assumption | (simp only [gcnt_4, gcnt_1, gcnt_2, gcnt_3, gcnt_12, gcnt_13, gcnt_16]; omega)) rfl rfl (Nat.le_of_ble_eq_true rfl) dX8_goes_52 ?_
          rw [pm_seti M S1 (by omega) (by omega)]
          refine r_iinc2 hR (nI 1) (by decide) (fun _ h => by first | (cases h; rfl) | exact absurd h (by simp)) dX8_goes_55 ?_
          try rw [nI_add]
          refine r_goto hR 2 dX8_goes_58 (by decide) ?_
          refine r_mem (M2 := pm M (dayP S w (i + 1))) ?_ (ih (i + 1) (by omega))
          rw [← hS1, ← dayP_succ]
          rfl
  refine r_iconst hR (nI 0) (by decide) dX8_goes_0 ?_
  refine r_istore2 hR (fun _ h => by first | (cases h; rfl) | exact absurd h (by simp)) dX8_goes_1 ?_
  refine r_mem (M2 := pm M (dayP S w 0)) (by rw [dayP_0]; exact (pm_id h).symm) ?_
  exact L (S 3) 0 (by omega)

set_option maxHeartbeats 4000000 in
set_option maxRecDepth 100000 in
theorem t_X8_day {G : gG} {M : gM} {S : Nat → Nat} (h : rowP M 0 S) (hwf : wfS S) : Cf G mX8_day 5 [.ref (ad G 15 0)] M none (pm M (day1 S)) := by
  obtain ⟨w0, w1, w2, w3, wr, wt⟩ := id hwf
  refine Ct.of (by decide +kernel) (k := 0) (ls0 := [some (.ref (ad G 15 0))]) rfl rfl (fun _ _ => trivial) ?_
  intro P hR
  refine r_aload0 hR dX8_day_0 ?_
  refine r_aload0 hR dX8_day_1 ?_
  refine r_aload0 hR dX8_day_2 ?_
  refine r_get hR (by first | decide | assumption | (simp only [gcnt_4, gcnt_1, gcnt_2, gcnt_3, gcnt_12, gcnt_13, gcnt_16]; omega)) fl_X8_9 rfl rfl dX8_day_3 ?_
  refine r_iconst hR (nI 0) (by decide) dX8_day_6 ?_
  refine r_iald hR (by first | decide | assumption | (simp only [gcnt_4, gcnt_1, gcnt_2, gcnt_3, gcnt_12, gcnt_13, gcnt_16]; omega)) rfl rfl (by omega) (by decide) dX8_day_7 ?_
  rw [h 0 (by omega)]
  refine r_cv1v hR kv_X8_63 (by decide) (t_X8_blowing h hwf (by omega)) (by first | decide | assumption | (simp only [gcnt_4, gcnt_1, gcnt_2, gcnt_3, gcnt_12, gcnt_13, gcnt_16]; omega)) rfl rfl (Nat.le_of_ble_eq_true rfl) dX8_day_8 ?_
  refine r_cv1u hR kv_X8_108 (by decide) (t_X8_goes h hwf (by have := blow_le (S := S) (d := S 0) wr; omega)) (by first | decide | assumption | (simp only [gcnt_4, gcnt_1, gcnt_2, gcnt_3, gcnt_12, gcnt_13, gcnt_16]; omega)) rfl rfl (Nat.le_of_ble_eq_true rfl) dX8_day_11 ?_
  refine r_vret hR dX8_day_14 ?_
  exact ⟨rfl, rfl⟩

set_option maxHeartbeats 4000000 in
set_option maxRecDepth 100000 in
theorem t_X8_sums {G : gG} {M : gM} {S : Nat → Nat} (h : rowP M 0 S) (hwf : wfS S) : Cf G mX8_sums 1 [.ref (ad G 15 0)] M (some (.int (nI (sumsN S)))) M := by
  obtain ⟨w0, w1, w2, w3, wr, wt⟩ := id hwf
  refine Ct.of (by decide +kernel) (k := 2) (ls0 := [some (.ref (ad G 15 0)), none, none]) rfl rfl (fun _ _ => trivial) ?_
  intro P hR
  have L : ∀ (j i : Nat), i + j = S 3 → P 4 [some (.ref (ad G 15 0)), some (.int (nI (sumsP S i))), some (.int (nI i))] [] M := by
    intro j
    induction j with
    | zero =>
      intro i  hij 
      refine r_iload2 hR dX8_sums_4 ?_
      refine r_aload0 hR dX8_sums_5 ?_
      refine r_get hR (by first | decide | assumption | (simp only [gcnt_4, gcnt_1, gcnt_2, gcnt_3, gcnt_12, gcnt_13, gcnt_16]; omega)) fl_X8_9 rfl rfl dX8_sums_6 ?_
      refine r_iconst hR (nI 3) (by decide) dX8_sums_9 ?_
      refine r_iald hR (by first | decide | assumption | (simp only [gcnt_4, gcnt_1, gcnt_2, gcnt_3, gcnt_12, gcnt_13, gcnt_16]; omega)) rfl rfl (by omega) (by decide) dX8_sums_10 ?_
      rw [h 3 (by omega)]
      refine r_icmp_ge hR 29 dX8_sums_11 (by decide) (fun c11 => ?_) (fun c11 => ?_)
      · try simp (disch := omega) only [nI_ltI, nI_leI, nI_eq, bI_0, Decidable.not_not, lc_lt, lc_gt, lc_ge, lc_le, lc_eq, i64_toInt] at c11
        try simp (disch := omega) only [cv_lt, cv_le, cv_eq, nI_toInt, cv_0] at c11
        first
        | omega
        | refine r_iload1 hR dX8_sums_29 ?_
          refine r_iret hR dX8_sums_30 ?_
          first
          | (obtain rfl : i = S 3 := by omega
             exact ⟨rfl, rfl⟩)
          | omega
      · try simp (disch := omega) only [nI_ltI, nI_leI, nI_eq, bI_0, Decidable.not_not, lc_lt, lc_gt, lc_ge, lc_le, lc_eq, i64_toInt] at c11
        try simp (disch := omega) only [cv_lt, cv_le, cv_eq, nI_toInt, cv_0] at c11
        first
        | omega
        | refine r_iload1 hR dX8_sums_14 ?_
          refine r_aload0 hR dX8_sums_15 ?_
          refine r_iload2 hR dX8_sums_16 ?_
          refine r_iconst hR (nI 3) (by decide) dX8_sums_17 ?_
          refine r_cv2v hR kv_X8_75 (by decide) (t_X8_it h (by omega) (by decide) w3) (by first | decide | assumption | (simp only [gcnt_4, gcnt_1, gcnt_2, gcnt_3, gcnt_12, gcnt_13, gcnt_16]; omega)) rfl rfl (Nat.le_of_ble_eq_true rfl) dX8_sums_18 ?_
          refine r_iadd hR dX8_sums_21 ?_
          try rw [nI_add]
          refine r_istore1 hR (fun _ h => by first | (cases h; rfl) | exact absurd h (by simp)) dX8_sums_22 ?_
          refine r_iinc2 hR (nI 1) (by decide) (fun _ h => by first | (cases h; rfl) | exact absurd h (by simp)) dX8_sums_23 ?_
          try rw [nI_add]
          refine r_goto hR 4 dX8_sums_26 (by decide) ?_
          omega
    | succ j ih =>
      intro i  hij 
      refine r_iload2 hR dX8_sums_4 ?_
      refine r_aload0 hR dX8_sums_5 ?_
      refine r_get hR (by first | decide | assumption | (simp only [gcnt_4, gcnt_1, gcnt_2, gcnt_3, gcnt_12, gcnt_13, gcnt_16]; omega)) fl_X8_9 rfl rfl dX8_sums_6 ?_
      refine r_iconst hR (nI 3) (by decide) dX8_sums_9 ?_
      refine r_iald hR (by first | decide | assumption | (simp only [gcnt_4, gcnt_1, gcnt_2, gcnt_3, gcnt_12, gcnt_13, gcnt_16]; omega)) rfl rfl (by omega) (by decide) dX8_sums_10 ?_
      rw [h 3 (by omega)]
      refine r_icmp_ge hR 29 dX8_sums_11 (by decide) (fun c11 => ?_) (fun c11 => ?_)
      · try simp (disch := omega) only [nI_ltI, nI_leI, nI_eq, bI_0, Decidable.not_not, lc_lt, lc_gt, lc_ge, lc_le, lc_eq, i64_toInt] at c11
        try simp (disch := omega) only [cv_lt, cv_le, cv_eq, nI_toInt, cv_0] at c11
        first
        | omega
        | refine r_iload1 hR dX8_sums_29 ?_
          refine r_iret hR dX8_sums_30 ?_
          first
          | (obtain rfl : i = S 3 := by omega
             exact ⟨rfl, rfl⟩)
          | omega
      · try simp (disch := omega) only [nI_ltI, nI_leI, nI_eq, bI_0, Decidable.not_not, lc_lt, lc_gt, lc_ge, lc_le, lc_eq, i64_toInt] at c11
        try simp (disch := omega) only [cv_lt, cv_le, cv_eq, nI_toInt, cv_0] at c11
        first
        | omega
        | refine r_iload1 hR dX8_sums_14 ?_
          refine r_aload0 hR dX8_sums_15 ?_
          refine r_iload2 hR dX8_sums_16 ?_
          refine r_iconst hR (nI 3) (by decide) dX8_sums_17 ?_
          refine r_cv2v hR kv_X8_75 (by decide) (t_X8_it h (by omega) (by decide) w3) (by first | decide | assumption | (simp only [gcnt_4, gcnt_1, gcnt_2, gcnt_3, gcnt_12, gcnt_13, gcnt_16]; omega)) rfl rfl (Nat.le_of_ble_eq_true rfl) dX8_sums_18 ?_
          refine r_iadd hR dX8_sums_21 ?_
          try rw [nI_add]
          refine r_istore1 hR (fun _ h => by first | (cases h; rfl) | exact absurd h (by simp)) dX8_sums_22 ?_
          refine r_iinc2 hR (nI 1) (by decide) (fun _ h => by first | (cases h; rfl) | exact absurd h (by simp)) dX8_sums_23 ?_
          try rw [nI_add]
          refine r_goto hR 4 dX8_sums_26 (by decide) ?_
          exact ih (i + 1) (by omega)
  refine r_iconst hR (nI 0) (by decide) dX8_sums_0 ?_
  refine r_istore1 hR (fun _ h => by first | (cases h; rfl) | exact absurd h (by simp)) dX8_sums_1 ?_
  refine r_iconst hR (nI 0) (by decide) dX8_sums_2 ?_
  refine r_istore2 hR (fun _ h => by first | (cases h; rfl) | exact absurd h (by simp)) dX8_sums_3 ?_
  exact L (S 3) 0 (by omega)

set_option maxHeartbeats 4000000 in
set_option maxRecDepth 100000 in
theorem t_X8_thinks {G : gG} {M : gM} : Cf G mX8_thinks 1 [.ref (ad G 15 0)] M none (thM M) := by
  refine Ct.of (by decide +kernel) (k := 0) (ls0 := [some (.ref (ad G 15 0))]) rfl rfl (fun _ _ => trivial) ?_
  intro P hR
  refine r_aload0 hR dX8_thinks_0 ?_
  refine r_get hR (by first | decide | assumption | (simp only [gcnt_4, gcnt_1, gcnt_2, gcnt_3, gcnt_12, gcnt_13, gcnt_16]; omega)) fl_X8_9 rfl rfl dX8_thinks_1 ?_
  refine r_aload0 hR dX8_thinks_4 ?_
  refine r_get hR (by first | decide | assumption | (simp only [gcnt_4, gcnt_1, gcnt_2, gcnt_3, gcnt_12, gcnt_13, gcnt_16]; omega)) fl_X8_16 rfl rfl dX8_thinks_5 ?_
  refine r_cs2u hR ks_X8_120 (by decide) (t_X8_copyAll (by decide) (by decide) (by decide)) (Nat.le_of_ble_eq_true rfl) dX8_thinks_8 ?_
  refine r_vret hR dX8_thinks_11 ?_
  exact ⟨rfl, rfl⟩

set_option maxHeartbeats 4000000 in
set_option maxRecDepth 100000 in
theorem t_X8_putsBack {G : gG} {M : gM} : Cf G mX8_putsBack 1 [.ref (ad G 15 0)] M none (bkM M) := by
  refine Ct.of (by decide +kernel) (k := 0) (ls0 := [some (.ref (ad G 15 0))]) rfl rfl (fun _ _ => trivial) ?_
  intro P hR
  refine r_aload0 hR dX8_putsBack_0 ?_
  refine r_get hR (by first | decide | assumption | (simp only [gcnt_4, gcnt_1, gcnt_2, gcnt_3, gcnt_12, gcnt_13, gcnt_16]; omega)) fl_X8_16 rfl rfl dX8_putsBack_1 ?_
  refine r_aload0 hR dX8_putsBack_4 ?_
  refine r_get hR (by first | decide | assumption | (simp only [gcnt_4, gcnt_1, gcnt_2, gcnt_3, gcnt_12, gcnt_13, gcnt_16]; omega)) fl_X8_9 rfl rfl dX8_putsBack_5 ?_
  refine r_cs2u hR ks_X8_120 (by decide) (t_X8_copyAll (by decide) (by decide) (by decide)) (Nat.le_of_ble_eq_true rfl) dX8_putsBack_8 ?_
  refine r_vret hR dX8_putsBack_11 ?_
  exact ⟨rfl, rfl⟩

set_option maxHeartbeats 4000000 in
set_option maxRecDepth 100000 in
theorem t_X8_gainOn {G : gG} {M : gM} {S : Nat → Nat} (h : rowP M 0 S) (hwf : wfS S) {n : Nat} (hd : S 0 + n < 20000) : Cf G mX8_gainOn 6 [.ref (ad G 15 0), .int (nI n)] M (some (.int (nI (gainN n S)))) (bkM M) := by
  obtain ⟨w0, w1, w2, w3, wr, wt⟩ := id hwf
  refine Ct.of (by decide +kernel) (k := 2) (ls0 := [some (.ref (ad G 15 0)), some (.int (nI n)), none, none]) rfl rfl (fun _ _ => trivial) ?_
  intro P hR
  have L : ∀ (j i : Nat), i + j = n → P 7 [some (.ref (ad G 15 0)), some (.int (nI n)), some (.int (nI (sumsN S))), some (.int (nI i))] [] (pm M (dayN i S)) := by
    intro j
    induction j with
    | zero =>
      intro i  hij 
      have hP := rowP_pm M (dayN i S)
      have wfi : wfS (dayN i S) := wf_dayN hwf (by omega)
      have e3 := dayN_3 i S
      have e0 := dayN_0 i S
      have hsl := sumsN_le wfi
      refine r_iload3 hR dX8_gainOn_7 ?_
      refine r_iload1 hR dX8_gainOn_8 ?_
      refine r_icmp_ge hR 22 dX8_gainOn_9 (by decide) (fun c9 => ?_) (fun c9 => ?_)
      · try simp (disch := omega) only [nI_ltI, nI_leI, nI_eq, bI_0, Decidable.not_not, lc_lt, lc_gt, lc_ge, lc_le, lc_eq, i64_toInt] at c9
        try simp (disch := omega) only [cv_lt, cv_le, cv_eq, nI_toInt, cv_0] at c9
        first
        | omega
        | refine r_aload0 hR dX8_gainOn_22 ?_
          refine r_cv0v hR kv_X8_116 (by decide) (t_X8_sums hP wfi) (by first | decide | assumption | (simp only [gcnt_4, gcnt_1, gcnt_2, gcnt_3, gcnt_12, gcnt_13, gcnt_16]; omega)) rfl rfl (Nat.le_of_ble_eq_true rfl) dX8_gainOn_23 ?_
          refine r_iload2 hR dX8_gainOn_26 ?_
          have hmn := sums_dayN (n := i) hwf (by omega)
          refine r_isubN hR hmn dX8_gainOn_27 ?_
          refine r_istore3 hR (fun _ h => by first | (cases h; rfl) | exact absurd h (by simp)) dX8_gainOn_28 ?_
          refine r_aload0 hR dX8_gainOn_29 ?_
          refine r_cv0u hR kv_X8_127 (by decide) (t_X8_putsBack) (by first | decide | assumption | (simp only [gcnt_4, gcnt_1, gcnt_2, gcnt_3, gcnt_12, gcnt_13, gcnt_16]; omega)) rfl rfl (Nat.le_of_ble_eq_true rfl) dX8_gainOn_30 ?_
          refine r_iload3 hR dX8_gainOn_33 ?_
          refine r_iret hR dX8_gainOn_34 ?_
          first
          | (obtain rfl : i = n := by omega
             exact ⟨rfl, bk_put M _ (by omega)⟩)
          | omega
      · try simp (disch := omega) only [nI_ltI, nI_leI, nI_eq, bI_0, Decidable.not_not, lc_lt, lc_gt, lc_ge, lc_le, lc_eq, i64_toInt] at c9
        try simp (disch := omega) only [cv_lt, cv_le, cv_eq, nI_toInt, cv_0] at c9
        first
        | omega
        | refine r_aload0 hR dX8_gainOn_12 ?_
          refine r_cv0u hR kv_X8_113 (by decide) (t_X8_day hP wfi) (by first | decide | assumption | (simp only [gcnt_4, gcnt_1, gcnt_2, gcnt_3, gcnt_12, gcnt_13, gcnt_16]; omega)) rfl rfl (Nat.le_of_ble_eq_true rfl) dX8_gainOn_13 ?_
          refine r_iinc3 hR (nI 1) (by decide) (fun _ h => by first | (cases h; rfl) | exact absurd h (by simp)) dX8_gainOn_16 ?_
          try rw [nI_add]
          refine r_goto hR 7 dX8_gainOn_19 (by decide) ?_
          omega
    | succ j ih =>
      intro i  hij 
      have hP := rowP_pm M (dayN i S)
      have wfi : wfS (dayN i S) := wf_dayN hwf (by omega)
      have e3 := dayN_3 i S
      have e0 := dayN_0 i S
      have hsl := sumsN_le wfi
      refine r_iload3 hR dX8_gainOn_7 ?_
      refine r_iload1 hR dX8_gainOn_8 ?_
      refine r_icmp_ge hR 22 dX8_gainOn_9 (by decide) (fun c9 => ?_) (fun c9 => ?_)
      · try simp (disch := omega) only [nI_ltI, nI_leI, nI_eq, bI_0, Decidable.not_not, lc_lt, lc_gt, lc_ge, lc_le, lc_eq, i64_toInt] at c9
        try simp (disch := omega) only [cv_lt, cv_le, cv_eq, nI_toInt, cv_0] at c9
        first
        | omega
        | refine r_aload0 hR dX8_gainOn_22 ?_
          refine r_cv0v hR kv_X8_116 (by decide) (t_X8_sums hP wfi) (by first | decide | assumption | (simp only [gcnt_4, gcnt_1, gcnt_2, gcnt_3, gcnt_12, gcnt_13, gcnt_16]; omega)) rfl rfl (Nat.le_of_ble_eq_true rfl) dX8_gainOn_23 ?_
          refine r_iload2 hR dX8_gainOn_26 ?_
          have hmn := sums_dayN (n := i) hwf (by omega)
          refine r_isubN hR hmn dX8_gainOn_27 ?_
          refine r_istore3 hR (fun _ h => by first | (cases h; rfl) | exact absurd h (by simp)) dX8_gainOn_28 ?_
          refine r_aload0 hR dX8_gainOn_29 ?_
          refine r_cv0u hR kv_X8_127 (by decide) (t_X8_putsBack) (by first | decide | assumption | (simp only [gcnt_4, gcnt_1, gcnt_2, gcnt_3, gcnt_12, gcnt_13, gcnt_16]; omega)) rfl rfl (Nat.le_of_ble_eq_true rfl) dX8_gainOn_30 ?_
          refine r_iload3 hR dX8_gainOn_33 ?_
          refine r_iret hR dX8_gainOn_34 ?_
          first
          | (obtain rfl : i = n := by omega
             exact ⟨rfl, bk_put M _ (by omega)⟩)
          | omega
      · try simp (disch := omega) only [nI_ltI, nI_leI, nI_eq, bI_0, Decidable.not_not, lc_lt, lc_gt, lc_ge, lc_le, lc_eq, i64_toInt] at c9
        try simp (disch := omega) only [cv_lt, cv_le, cv_eq, nI_toInt, cv_0] at c9
        first
        | omega
        | refine r_aload0 hR dX8_gainOn_12 ?_
          refine r_cv0u hR kv_X8_113 (by decide) (t_X8_day hP wfi) (by first | decide | assumption | (simp only [gcnt_4, gcnt_1, gcnt_2, gcnt_3, gcnt_12, gcnt_13, gcnt_16]; omega)) rfl rfl (Nat.le_of_ble_eq_true rfl) dX8_gainOn_13 ?_
          refine r_iinc3 hR (nI 1) (by decide) (fun _ h => by first | (cases h; rfl) | exact absurd h (by simp)) dX8_gainOn_16 ?_
          try rw [nI_add]
          refine r_goto hR 7 dX8_gainOn_19 (by decide) ?_
          refine r_mem (M2 := pm M (dayN (i + 1) S)) ?_ (ih (i + 1) (by omega))
          exact pm_pm M _ _ (by rw [dayN_3]; exact (dayN_3 (i + 1) S).symm)
  refine r_aload0 hR dX8_gainOn_0 ?_
  refine r_cv0v hR kv_X8_116 (by decide) (t_X8_sums h hwf) (by first | decide | assumption | (simp only [gcnt_4, gcnt_1, gcnt_2, gcnt_3, gcnt_12, gcnt_13, gcnt_16]; omega)) rfl rfl (Nat.le_of_ble_eq_true rfl) dX8_gainOn_1 ?_
  refine r_istore2 hR (fun _ h => by first | (cases h; rfl) | exact absurd h (by simp)) dX8_gainOn_4 ?_
  refine r_iconst hR (nI 0) (by decide) dX8_gainOn_5 ?_
  refine r_istore3 hR (fun _ h => by first | (cases h; rfl) | exact absurd h (by simp)) dX8_gainOn_6 ?_
  refine r_mem (M2 := pm M (dayN 0 S)) (pm_id h).symm ?_
  exact L n 0 (by omega)

theorem row_th {M : gM} {S : Nat → Nat} (h : rowP M 0 S) : rowP (thM M) 0 S := rowP_eqY (eqY_th M) h
set_option maxHeartbeats 4000000 in
set_option maxRecDepth 100000 in
theorem t_X8_bestAt {G : gG} {M : gM} {S : Nat → Nat} (h : rowP M 0 S) (hwf : wfS S) {at' m n : Nat} (ha : at' < 11 + 4 * S 3) (hk3 : ¬ at' = 3) (hk0 : ¬ 0 = at') (hm : m < 10) (hwv : ∀ v, v ≤ m → wfS (va_up S at' v)) (hd : S 0 + n < 20000) : Cf G mX8_bestAt 7 [.ref (ad G 15 0), .int (nI at'), .int (nI (m + 1)), .int (nI n)] M (some (.int (nI (bstAt S at' m n)))) (thM M) := by
  obtain ⟨w0, w1, w2, w3, wr, wt⟩ := id hwf
  have hgl : ∀ v, v ≤ m → (fun v => gainN n (va_up S at' v)) v ≤ 99999 * 8 := fun v hv => gain_le (hwv v hv) (by rw [vu_o hk0]; exact hd)
  have hlo : at' < 43 := by omega
  refine Ct.of (by decide +kernel) (k := 4) (ls0 := [some (.ref (ad G 15 0)), some (.int (nI at')), some (.int (nI (m + 1))), some (.int (nI n)), none, none, none, none]) rfl rfl (fun _ _ => trivial) ?_
  intro P hR
  have L : ∀ (j i : Nat) (x7 : Option Value), i + j = m → P 13 [some (.ref (ad G 15 0)), some (.int (nI at')), some (.int (nI (m + 1))), some (.int (nI n)), some (.int (nI (bstN (fun v => gainN n (va_up S at' v)) i).1)), some (.int (nI (bstN (fun v => gainN n (va_up S at' v)) i).2)), some (.int (nI (i + 1))), x7] [] (thM M) := by
    intro j
    induction j with
    | zero =>
      intro i x7 hij 
      have hbb := bst_leN hgl i (by omega)
      refine r_iload6 hR dX8_bestAt_13 ?_
      refine r_iload2 hR dX8_bestAt_15 ?_
      refine r_icmp_ge hR 72 dX8_bestAt_16 (by decide) (fun c16 => ?_) (fun c16 => ?_)
      · try simp (disch := omega) only [nI_ltI, nI_leI, nI_eq, bI_0, Decidable.not_not, lc_lt, lc_gt, lc_ge, lc_le, lc_eq, i64_toInt] at c16
        try simp (disch := omega) only [cv_lt, cv_le, cv_eq, nI_toInt, cv_0] at c16
        first
        | omega
        | refine r_iload4 hR dX8_bestAt_72 ?_
          refine r_iret hR dX8_bestAt_74 ?_
          first
          | (obtain rfl : i = m := by omega
             exact ⟨rfl, rfl⟩)
          | omega
      · try simp (disch := omega) only [nI_ltI, nI_leI, nI_eq, bI_0, Decidable.not_not, lc_lt, lc_gt, lc_ge, lc_le, lc_eq, i64_toInt] at c16
        try simp (disch := omega) only [cv_lt, cv_le, cv_eq, nI_toInt, cv_0] at c16
        first
        | omega
        | refine r_aload0 hR dX8_bestAt_19 ?_
          refine r_get hR (by first | decide | assumption | (simp only [gcnt_4, gcnt_1, gcnt_2, gcnt_3, gcnt_12, gcnt_13, gcnt_16]; omega)) fl_X8_9 rfl rfl dX8_bestAt_20 ?_
          refine r_iload1 hR dX8_bestAt_23 ?_
          refine r_iload6 hR dX8_bestAt_24 ?_
          refine r_iast hR (by first | decide | assumption | (simp only [gcnt_4, gcnt_1, gcnt_2, gcnt_3, gcnt_12, gcnt_13, gcnt_16]; omega)) (fun _ => rfl) rfl (by omega) (by decide) dX8_bestAt_26 ?_
          
          refine r_aload0 hR dX8_bestAt_27 ?_
          refine r_iload3 hR dX8_bestAt_28 ?_
          refine r_cv1v hR kv_X8_139 (by decide) (t_X8_gainOn (rowP_up (row_th h) hk3) (hwv _ (by omega)) (by rw [vu_o hk0]; omega)) (by first | decide | assumption | (simp only [gcnt_4, gcnt_1, gcnt_2, gcnt_3, gcnt_12, gcnt_13, gcnt_16]; omega)) rfl rfl (Nat.le_of_ble_eq_true rfl) dX8_bestAt_29 ?_
          rw [bk_seti _ (by omega), bk_th]
          have hg : gainN n (va_up S at' (i + 1)) ≤ 99999 * 8 := hgl (i + 1) (by omega)
          refine r_istore7 hR (fun _ h => by first | (cases h; rfl) | exact absurd h (by simp)) dX8_bestAt_32 ?_
          refine r_iload7 hR dX8_bestAt_34 ?_
          refine r_iload5 hR dX8_bestAt_36 ?_
          refine r_icmp_le hR 46 dX8_bestAt_38 (by decide) (fun c38 => ?_) (fun c38 => ?_)
          · try simp (disch := omega) only [nI_ltI, nI_leI, nI_eq, bI_0, Decidable.not_not, lc_lt, lc_gt, lc_ge, lc_le, lc_eq, i64_toInt] at c38
            try simp (disch := omega) only [cv_lt, cv_le, cv_eq, nI_toInt, cv_0] at c38
            first
            | omega
            | refine r_iload4 hR dX8_bestAt_46 ?_
              refine r_istore4 hR (fun _ h => by first | (cases h; rfl) | exact absurd h (by simp)) dX8_bestAt_48 ?_
              refine r_iload7 hR dX8_bestAt_50 ?_
              refine r_iload5 hR dX8_bestAt_52 ?_
              refine r_icmp_le hR 62 dX8_bestAt_54 (by decide) (fun c54 => ?_) (fun c54 => ?_)
              · try simp (disch := omega) only [nI_ltI, nI_leI, nI_eq, bI_0, Decidable.not_not, lc_lt, lc_gt, lc_ge, lc_le, lc_eq, i64_toInt] at c54
                try simp (disch := omega) only [cv_lt, cv_le, cv_eq, nI_toInt, cv_0] at c54
                first
                | omega
                | refine r_iload5 hR dX8_bestAt_62 ?_
                  refine r_istore5 hR (fun _ h => by first | (cases h; rfl) | exact absurd h (by simp)) dX8_bestAt_64 ?_
                  refine r_iinc6 hR (nI 1) (by decide) (fun _ h => by first | (cases h; rfl) | exact absurd h (by simp)) dX8_bestAt_66 ?_
                  try rw [nI_add]
                  refine r_goto hR 13 dX8_bestAt_69 (by decide) ?_
                  omega
              · try simp (disch := omega) only [nI_ltI, nI_leI, nI_eq, bI_0, Decidable.not_not, lc_lt, lc_gt, lc_ge, lc_le, lc_eq, i64_toInt] at c54
                try simp (disch := omega) only [cv_lt, cv_le, cv_eq, nI_toInt, cv_0] at c54
                first
                | omega
                | refine r_iload7 hR dX8_bestAt_57 ?_
                  refine r_goto hR 64 dX8_bestAt_59 (by decide) ?_
                  refine r_istore5 hR (fun _ h => by first | (cases h; rfl) | exact absurd h (by simp)) dX8_bestAt_64 ?_
                  refine r_iinc6 hR (nI 1) (by decide) (fun _ h => by first | (cases h; rfl) | exact absurd h (by simp)) dX8_bestAt_66 ?_
                  try rw [nI_add]
                  refine r_goto hR 13 dX8_bestAt_69 (by decide) ?_
                  omega
          · try simp (disch := omega) only [nI_ltI, nI_leI, nI_eq, bI_0, Decidable.not_not, lc_lt, lc_gt, lc_ge, lc_le, lc_eq, i64_toInt] at c38
            try simp (disch := omega) only [cv_lt, cv_le, cv_eq, nI_toInt, cv_0] at c38
            first
            | omega
            | refine r_iload6 hR dX8_bestAt_41 ?_
              refine r_goto hR 48 dX8_bestAt_43 (by decide) ?_
              refine r_istore4 hR (fun _ h => by first | (cases h; rfl) | exact absurd h (by simp)) dX8_bestAt_48 ?_
              refine r_iload7 hR dX8_bestAt_50 ?_
              refine r_iload5 hR dX8_bestAt_52 ?_
              refine r_icmp_le hR 62 dX8_bestAt_54 (by decide) (fun c54 => ?_) (fun c54 => ?_)
              · try simp (disch := omega) only [nI_ltI, nI_leI, nI_eq, bI_0, Decidable.not_not, lc_lt, lc_gt, lc_ge, lc_le, lc_eq, i64_toInt] at c54
                try simp (disch := omega) only [cv_lt, cv_le, cv_eq, nI_toInt, cv_0] at c54
                first
                | omega
                | refine r_iload5 hR dX8_bestAt_62 ?_
                  refine r_istore5 hR (fun _ h => by first | (cases h; rfl) | exact absurd h (by simp)) dX8_bestAt_64 ?_
                  refine r_iinc6 hR (nI 1) (by decide) (fun _ h => by first | (cases h; rfl) | exact absurd h (by simp)) dX8_bestAt_66 ?_
                  try rw [nI_add]
                  refine r_goto hR 13 dX8_bestAt_69 (by decide) ?_
                  omega
              · try simp (disch := omega) only [nI_ltI, nI_leI, nI_eq, bI_0, Decidable.not_not, lc_lt, lc_gt, lc_ge, lc_le, lc_eq, i64_toInt] at c54
                try simp (disch := omega) only [cv_lt, cv_le, cv_eq, nI_toInt, cv_0] at c54
                first
                | omega
                | refine r_iload7 hR dX8_bestAt_57 ?_
                  refine r_goto hR 64 dX8_bestAt_59 (by decide) ?_
                  refine r_istore5 hR (fun _ h => by first | (cases h; rfl) | exact absurd h (by simp)) dX8_bestAt_64 ?_
                  refine r_iinc6 hR (nI 1) (by decide) (fun _ h => by first | (cases h; rfl) | exact absurd h (by simp)) dX8_bestAt_66 ?_
                  try rw [nI_add]
                  refine r_goto hR 13 dX8_bestAt_69 (by decide) ?_
                  omega
    | succ j ih =>
      intro i x7 hij 
      have hbb := bst_leN hgl i (by omega)
      refine r_iload6 hR dX8_bestAt_13 ?_
      refine r_iload2 hR dX8_bestAt_15 ?_
      refine r_icmp_ge hR 72 dX8_bestAt_16 (by decide) (fun c16 => ?_) (fun c16 => ?_)
      · try simp (disch := omega) only [nI_ltI, nI_leI, nI_eq, bI_0, Decidable.not_not, lc_lt, lc_gt, lc_ge, lc_le, lc_eq, i64_toInt] at c16
        try simp (disch := omega) only [cv_lt, cv_le, cv_eq, nI_toInt, cv_0] at c16
        first
        | omega
        | refine r_iload4 hR dX8_bestAt_72 ?_
          refine r_iret hR dX8_bestAt_74 ?_
          first
          | (obtain rfl : i = m := by omega
             exact ⟨rfl, rfl⟩)
          | omega
      · try simp (disch := omega) only [nI_ltI, nI_leI, nI_eq, bI_0, Decidable.not_not, lc_lt, lc_gt, lc_ge, lc_le, lc_eq, i64_toInt] at c16
        try simp (disch := omega) only [cv_lt, cv_le, cv_eq, nI_toInt, cv_0] at c16
        first
        | omega
        | refine r_aload0 hR dX8_bestAt_19 ?_
          refine r_get hR (by first | decide | assumption | (simp only [gcnt_4, gcnt_1, gcnt_2, gcnt_3, gcnt_12, gcnt_13, gcnt_16]; omega)) fl_X8_9 rfl rfl dX8_bestAt_20 ?_
          refine r_iload1 hR dX8_bestAt_23 ?_
          refine r_iload6 hR dX8_bestAt_24 ?_
          refine r_iast hR (by first | decide | assumption | (simp only [gcnt_4, gcnt_1, gcnt_2, gcnt_3, gcnt_12, gcnt_13, gcnt_16]; omega)) (fun _ => rfl) rfl (by omega) (by decide) dX8_bestAt_26 ?_
          
          refine r_aload0 hR dX8_bestAt_27 ?_
          refine r_iload3 hR dX8_bestAt_28 ?_
          refine r_cv1v hR kv_X8_139 (by decide) (t_X8_gainOn (rowP_up (row_th h) hk3) (hwv _ (by omega)) (by rw [vu_o hk0]; omega)) (by first | decide | assumption | (simp only [gcnt_4, gcnt_1, gcnt_2, gcnt_3, gcnt_12, gcnt_13, gcnt_16]; omega)) rfl rfl (Nat.le_of_ble_eq_true rfl) dX8_bestAt_29 ?_
          rw [bk_seti _ (by omega), bk_th]
          have hg : gainN n (va_up S at' (i + 1)) ≤ 99999 * 8 := hgl (i + 1) (by omega)
          refine r_istore7 hR (fun _ h => by first | (cases h; rfl) | exact absurd h (by simp)) dX8_bestAt_32 ?_
          refine r_iload7 hR dX8_bestAt_34 ?_
          refine r_iload5 hR dX8_bestAt_36 ?_
          refine r_icmp_le hR 46 dX8_bestAt_38 (by decide) (fun c38 => ?_) (fun c38 => ?_)
          · try simp (disch := omega) only [nI_ltI, nI_leI, nI_eq, bI_0, Decidable.not_not, lc_lt, lc_gt, lc_ge, lc_le, lc_eq, i64_toInt] at c38
            try simp (disch := omega) only [cv_lt, cv_le, cv_eq, nI_toInt, cv_0] at c38
            first
            | omega
            | refine r_iload4 hR dX8_bestAt_46 ?_
              refine r_istore4 hR (fun _ h => by first | (cases h; rfl) | exact absurd h (by simp)) dX8_bestAt_48 ?_
              refine r_iload7 hR dX8_bestAt_50 ?_
              refine r_iload5 hR dX8_bestAt_52 ?_
              refine r_icmp_le hR 62 dX8_bestAt_54 (by decide) (fun c54 => ?_) (fun c54 => ?_)
              · try simp (disch := omega) only [nI_ltI, nI_leI, nI_eq, bI_0, Decidable.not_not, lc_lt, lc_gt, lc_ge, lc_le, lc_eq, i64_toInt] at c54
                try simp (disch := omega) only [cv_lt, cv_le, cv_eq, nI_toInt, cv_0] at c54
                first
                | omega
                | refine r_iload5 hR dX8_bestAt_62 ?_
                  refine r_istore5 hR (fun _ h => by first | (cases h; rfl) | exact absurd h (by simp)) dX8_bestAt_64 ?_
                  refine r_iinc6 hR (nI 1) (by decide) (fun _ h => by first | (cases h; rfl) | exact absurd h (by simp)) dX8_bestAt_66 ?_
                  try rw [nI_add]
                  refine r_goto hR 13 dX8_bestAt_69 (by decide) ?_
                  have es : bstN (fun v => gainN n (va_up S at' v)) (i + 1) = if (bstN (fun v => gainN n (va_up S at' v)) i).2 < gainN n (va_up S at' (i + 1)) then (i + 1, gainN n (va_up S at' (i + 1))) else bstN (fun v => gainN n (va_up S at' v)) i := rfl
                  first
                  | (rw [if_pos (by omega)] at es; have ih2 := ih (i + 1) (some (.int (nI (gainN n (va_up S at' (i + 1)))))) (by omega); rw [es] at ih2; exact ih2)
                  | (rw [if_neg (by omega)] at es; have ih2 := ih (i + 1) (some (.int (nI (gainN n (va_up S at' (i + 1)))))) (by omega); rw [es] at ih2; exact ih2)
              · try simp (disch := omega) only [nI_ltI, nI_leI, nI_eq, bI_0, Decidable.not_not, lc_lt, lc_gt, lc_ge, lc_le, lc_eq, i64_toInt] at c54
                try simp (disch := omega) only [cv_lt, cv_le, cv_eq, nI_toInt, cv_0] at c54
                first
                | omega
                | refine r_iload7 hR dX8_bestAt_57 ?_
                  refine r_goto hR 64 dX8_bestAt_59 (by decide) ?_
                  refine r_istore5 hR (fun _ h => by first | (cases h; rfl) | exact absurd h (by simp)) dX8_bestAt_64 ?_
                  refine r_iinc6 hR (nI 1) (by decide) (fun _ h => by first | (cases h; rfl) | exact absurd h (by simp)) dX8_bestAt_66 ?_
                  try rw [nI_add]
                  refine r_goto hR 13 dX8_bestAt_69 (by decide) ?_
                  have es : bstN (fun v => gainN n (va_up S at' v)) (i + 1) = if (bstN (fun v => gainN n (va_up S at' v)) i).2 < gainN n (va_up S at' (i + 1)) then (i + 1, gainN n (va_up S at' (i + 1))) else bstN (fun v => gainN n (va_up S at' v)) i := rfl
                  first
                  | (rw [if_pos (by omega)] at es; have ih2 := ih (i + 1) (some (.int (nI (gainN n (va_up S at' (i + 1)))))) (by omega); rw [es] at ih2; exact ih2)
                  | (rw [if_neg (by omega)] at es; have ih2 := ih (i + 1) (some (.int (nI (gainN n (va_up S at' (i + 1)))))) (by omega); rw [es] at ih2; exact ih2)
          · try simp (disch := omega) only [nI_ltI, nI_leI, nI_eq, bI_0, Decidable.not_not, lc_lt, lc_gt, lc_ge, lc_le, lc_eq, i64_toInt] at c38
            try simp (disch := omega) only [cv_lt, cv_le, cv_eq, nI_toInt, cv_0] at c38
            first
            | omega
            | refine r_iload6 hR dX8_bestAt_41 ?_
              refine r_goto hR 48 dX8_bestAt_43 (by decide) ?_
              refine r_istore4 hR (fun _ h => by first | (cases h; rfl) | exact absurd h (by simp)) dX8_bestAt_48 ?_
              refine r_iload7 hR dX8_bestAt_50 ?_
              refine r_iload5 hR dX8_bestAt_52 ?_
              refine r_icmp_le hR 62 dX8_bestAt_54 (by decide) (fun c54 => ?_) (fun c54 => ?_)
              · try simp (disch := omega) only [nI_ltI, nI_leI, nI_eq, bI_0, Decidable.not_not, lc_lt, lc_gt, lc_ge, lc_le, lc_eq, i64_toInt] at c54
                try simp (disch := omega) only [cv_lt, cv_le, cv_eq, nI_toInt, cv_0] at c54
                first
                | omega
                | refine r_iload5 hR dX8_bestAt_62 ?_
                  refine r_istore5 hR (fun _ h => by first | (cases h; rfl) | exact absurd h (by simp)) dX8_bestAt_64 ?_
                  refine r_iinc6 hR (nI 1) (by decide) (fun _ h => by first | (cases h; rfl) | exact absurd h (by simp)) dX8_bestAt_66 ?_
                  try rw [nI_add]
                  refine r_goto hR 13 dX8_bestAt_69 (by decide) ?_
                  have es : bstN (fun v => gainN n (va_up S at' v)) (i + 1) = if (bstN (fun v => gainN n (va_up S at' v)) i).2 < gainN n (va_up S at' (i + 1)) then (i + 1, gainN n (va_up S at' (i + 1))) else bstN (fun v => gainN n (va_up S at' v)) i := rfl
                  first
                  | (rw [if_pos (by omega)] at es; have ih2 := ih (i + 1) (some (.int (nI (gainN n (va_up S at' (i + 1)))))) (by omega); rw [es] at ih2; exact ih2)
                  | (rw [if_neg (by omega)] at es; have ih2 := ih (i + 1) (some (.int (nI (gainN n (va_up S at' (i + 1)))))) (by omega); rw [es] at ih2; exact ih2)
              · try simp (disch := omega) only [nI_ltI, nI_leI, nI_eq, bI_0, Decidable.not_not, lc_lt, lc_gt, lc_ge, lc_le, lc_eq, i64_toInt] at c54
                try simp (disch := omega) only [cv_lt, cv_le, cv_eq, nI_toInt, cv_0] at c54
                first
                | omega
                | refine r_iload7 hR dX8_bestAt_57 ?_
                  refine r_goto hR 64 dX8_bestAt_59 (by decide) ?_
                  refine r_istore5 hR (fun _ h => by first | (cases h; rfl) | exact absurd h (by simp)) dX8_bestAt_64 ?_
                  refine r_iinc6 hR (nI 1) (by decide) (fun _ h => by first | (cases h; rfl) | exact absurd h (by simp)) dX8_bestAt_66 ?_
                  try rw [nI_add]
                  refine r_goto hR 13 dX8_bestAt_69 (by decide) ?_
                  have es : bstN (fun v => gainN n (va_up S at' v)) (i + 1) = if (bstN (fun v => gainN n (va_up S at' v)) i).2 < gainN n (va_up S at' (i + 1)) then (i + 1, gainN n (va_up S at' (i + 1))) else bstN (fun v => gainN n (va_up S at' v)) i := rfl
                  first
                  | (rw [if_pos (by omega)] at es; have ih2 := ih (i + 1) (some (.int (nI (gainN n (va_up S at' (i + 1)))))) (by omega); rw [es] at ih2; exact ih2)
                  | (rw [if_neg (by omega)] at es; have ih2 := ih (i + 1) (some (.int (nI (gainN n (va_up S at' (i + 1)))))) (by omega); rw [es] at ih2; exact ih2)
  have J0 : P 13 [some (.ref (ad G 15 0)), some (.int (nI at')), some (.int (nI (m + 1))), some (.int (nI n)), some (.int (nI 0)), some (.int (-1)), some (.int (nI 0)), none] [] (thM M) := by
    refine r_iload6 hR dX8_bestAt_13 ?_
    refine r_iload2 hR dX8_bestAt_15 ?_
    refine r_icmp_ge hR 72 dX8_bestAt_16 (by decide) (fun c16 => ?_) (fun c16 => ?_)
    · try simp (disch := omega) only [nI_ltI, nI_leI, nI_eq, bI_0, Decidable.not_not, lc_lt, lc_gt, lc_ge, lc_le, lc_eq, i64_toInt] at c16
      try simp (disch := omega) only [cv_lt, cv_le, cv_eq, nI_toInt, cv_0] at c16
      first
      | omega
      | refine r_iload4 hR dX8_bestAt_72 ?_
        refine r_iret hR dX8_bestAt_74 ?_
        first
        | (obtain rfl : i = m := by omega
           exact ⟨rfl, rfl⟩)
        | omega
    · try simp (disch := omega) only [nI_ltI, nI_leI, nI_eq, bI_0, Decidable.not_not, lc_lt, lc_gt, lc_ge, lc_le, lc_eq, i64_toInt] at c16
      try simp (disch := omega) only [cv_lt, cv_le, cv_eq, nI_toInt, cv_0] at c16
      first
      | omega
      | refine r_aload0 hR dX8_bestAt_19 ?_
        refine r_get hR (by first | decide | assumption | (simp only [gcnt_4, gcnt_1, gcnt_2, gcnt_3, gcnt_12, gcnt_13, gcnt_16]; omega)) fl_X8_9 rfl rfl dX8_bestAt_20 ?_
        refine r_iload1 hR dX8_bestAt_23 ?_
        refine r_iload6 hR dX8_bestAt_24 ?_
        refine r_iast hR (by first | decide | assumption | (simp only [gcnt_4, gcnt_1, gcnt_2, gcnt_3, gcnt_12, gcnt_13, gcnt_16]; omega)) (fun _ => rfl) rfl (by omega) (by decide) dX8_bestAt_26 ?_
        
        refine r_aload0 hR dX8_bestAt_27 ?_
        refine r_iload3 hR dX8_bestAt_28 ?_
        refine r_cv1v hR kv_X8_139 (by decide) (t_X8_gainOn (rowP_up (row_th h) hk3) (hwv _ (by omega)) (by rw [vu_o hk0]; omega)) (by first | decide | assumption | (simp only [gcnt_4, gcnt_1, gcnt_2, gcnt_3, gcnt_12, gcnt_13, gcnt_16]; omega)) rfl rfl (Nat.le_of_ble_eq_true rfl) dX8_bestAt_29 ?_
        rw [bk_seti _ (by omega), bk_th]
        have hg : gainN n (va_up S at' (0)) ≤ 99999 * 8 := hgl (0) (by omega)
        have hm1 : (-1 : Int32).toInt = -1 := by decide
        refine r_istore7 hR (fun _ h => by first | (cases h; rfl) | exact absurd h (by simp)) dX8_bestAt_32 ?_
        refine r_iload7 hR dX8_bestAt_34 ?_
        refine r_iload5 hR dX8_bestAt_36 ?_
        refine r_icmp_le hR 46 dX8_bestAt_38 (by decide) (fun c38 => ?_) (fun c38 => ?_)
        · try simp (disch := omega) only [nI_ltI, nI_leI, nI_eq, bI_0, Decidable.not_not, lc_lt, lc_gt, lc_ge, lc_le, lc_eq, i64_toInt] at c38
          try simp (disch := omega) only [cv_lt, cv_le, cv_eq, nI_toInt, cv_0] at c38
          first
          | omega
          | refine r_iload4 hR dX8_bestAt_46 ?_
            refine r_istore4 hR (fun _ h => by first | (cases h; rfl) | exact absurd h (by simp)) dX8_bestAt_48 ?_
            refine r_iload7 hR dX8_bestAt_50 ?_
            refine r_iload5 hR dX8_bestAt_52 ?_
            refine r_icmp_le hR 62 dX8_bestAt_54 (by decide) (fun c54 => ?_) (fun c54 => ?_)
            · try simp (disch := omega) only [nI_ltI, nI_leI, nI_eq, bI_0, Decidable.not_not, lc_lt, lc_gt, lc_ge, lc_le, lc_eq, i64_toInt] at c54
              try simp (disch := omega) only [cv_lt, cv_le, cv_eq, nI_toInt, cv_0] at c54
              first
              | omega
              | refine r_iload5 hR dX8_bestAt_62 ?_
                refine r_istore5 hR (fun _ h => by first | (cases h; rfl) | exact absurd h (by simp)) dX8_bestAt_64 ?_
                refine r_iinc6 hR (nI 1) (by decide) (fun _ h => by first | (cases h; rfl) | exact absurd h (by simp)) dX8_bestAt_66 ?_
                try rw [nI_add]
                refine r_goto hR 13 dX8_bestAt_69 (by decide) ?_
                exact L m 0 _ (by omega)
            · try simp (disch := omega) only [nI_ltI, nI_leI, nI_eq, bI_0, Decidable.not_not, lc_lt, lc_gt, lc_ge, lc_le, lc_eq, i64_toInt] at c54
              try simp (disch := omega) only [cv_lt, cv_le, cv_eq, nI_toInt, cv_0] at c54
              first
              | omega
              | refine r_iload7 hR dX8_bestAt_57 ?_
                refine r_goto hR 64 dX8_bestAt_59 (by decide) ?_
                refine r_istore5 hR (fun _ h => by first | (cases h; rfl) | exact absurd h (by simp)) dX8_bestAt_64 ?_
                refine r_iinc6 hR (nI 1) (by decide) (fun _ h => by first | (cases h; rfl) | exact absurd h (by simp)) dX8_bestAt_66 ?_
                try rw [nI_add]
                refine r_goto hR 13 dX8_bestAt_69 (by decide) ?_
                exact L m 0 _ (by omega)
        · try simp (disch := omega) only [nI_ltI, nI_leI, nI_eq, bI_0, Decidable.not_not, lc_lt, lc_gt, lc_ge, lc_le, lc_eq, i64_toInt] at c38
          try simp (disch := omega) only [cv_lt, cv_le, cv_eq, nI_toInt, cv_0] at c38
          first
          | omega
          | refine r_iload6 hR dX8_bestAt_41 ?_
            refine r_goto hR 48 dX8_bestAt_43 (by decide) ?_
            refine r_istore4 hR (fun _ h => by first | (cases h; rfl) | exact absurd h (by simp)) dX8_bestAt_48 ?_
            refine r_iload7 hR dX8_bestAt_50 ?_
            refine r_iload5 hR dX8_bestAt_52 ?_
            refine r_icmp_le hR 62 dX8_bestAt_54 (by decide) (fun c54 => ?_) (fun c54 => ?_)
            · try simp (disch := omega) only [nI_ltI, nI_leI, nI_eq, bI_0, Decidable.not_not, lc_lt, lc_gt, lc_ge, lc_le, lc_eq, i64_toInt] at c54
              try simp (disch := omega) only [cv_lt, cv_le, cv_eq, nI_toInt, cv_0] at c54
              first
              | omega
              | refine r_iload5 hR dX8_bestAt_62 ?_
                refine r_istore5 hR (fun _ h => by first | (cases h; rfl) | exact absurd h (by simp)) dX8_bestAt_64 ?_
                refine r_iinc6 hR (nI 1) (by decide) (fun _ h => by first | (cases h; rfl) | exact absurd h (by simp)) dX8_bestAt_66 ?_
                try rw [nI_add]
                refine r_goto hR 13 dX8_bestAt_69 (by decide) ?_
                exact L m 0 _ (by omega)
            · try simp (disch := omega) only [nI_ltI, nI_leI, nI_eq, bI_0, Decidable.not_not, lc_lt, lc_gt, lc_ge, lc_le, lc_eq, i64_toInt] at c54
              try simp (disch := omega) only [cv_lt, cv_le, cv_eq, nI_toInt, cv_0] at c54
              first
              | omega
              | refine r_iload7 hR dX8_bestAt_57 ?_
                refine r_goto hR 64 dX8_bestAt_59 (by decide) ?_
                refine r_istore5 hR (fun _ h => by first | (cases h; rfl) | exact absurd h (by simp)) dX8_bestAt_64 ?_
                refine r_iinc6 hR (nI 1) (by decide) (fun _ h => by first | (cases h; rfl) | exact absurd h (by simp)) dX8_bestAt_66 ?_
                try rw [nI_add]
                refine r_goto hR 13 dX8_bestAt_69 (by decide) ?_
                exact L m 0 _ (by omega)
  refine r_aload0 hR dX8_bestAt_0 ?_
  refine r_cv0u hR kv_X8_124 (by decide) (t_X8_thinks) (by first | decide | assumption | (simp only [gcnt_4, gcnt_1, gcnt_2, gcnt_3, gcnt_12, gcnt_13, gcnt_16]; omega)) rfl rfl (Nat.le_of_ble_eq_true rfl) dX8_bestAt_1 ?_
  refine r_iconst hR (nI 0) (by decide) dX8_bestAt_4 ?_
  refine r_istore4 hR (fun _ h => by first | (cases h; rfl) | exact absurd h (by simp)) dX8_bestAt_5 ?_
  refine r_iconst hR (-1) (by decide) dX8_bestAt_7 ?_
  refine r_istore5 hR (fun _ h => by first | (cases h; rfl) | exact absurd h (by simp)) dX8_bestAt_8 ?_
  refine r_iconst hR (nI 0) (by decide) dX8_bestAt_10 ?_
  refine r_istore6 hR (fun _ h => by first | (cases h; rfl) | exact absurd h (by simp)) dX8_bestAt_11 ?_
  exact J0

set_option maxHeartbeats 4000000 in
set_option maxRecDepth 100000 in
theorem t_X8_begins {G : gG} {M : gM} {S : Nat → Nat} (h : rowP M 0 S) (hwf : wfS S) {t : Nat} (ht : t < S 3) : Cf G mX8_begins 1 [.ref (ad G 15 0), .int (nI t)] M none (putR M 18 0 (begC 99 (thg S t 1)) 36) := by
  obtain ⟨w0, w1, w2, w3, wr, wt⟩ := id hwf
  have q0 : thg S t 0 < 6 := by have := wt t ht; unfold thg; rw [Nat.add_zero]; omega
  have q1 : thg S t 1 < 36 := by have := wt t ht; unfold thg; omega
  have q2 : thg S t 2 < 8 := by have := wt t ht; unfold thg; omega
  have q3 : thg S t 3 ≤ 99999 := by have := wt t ht; unfold thg; omega
  refine Ct.of (by decide +kernel) (k := 1) (ls0 := [some (.ref (ad G 15 0)), some (.int (nI t)), none]) rfl rfl (fun _ _ => trivial) ?_
  intro P hR
  have L : ∀ (j i : Nat), i + j = 36 → P 2 [some (.ref (ad G 15 0)), some (.int (nI t)), some (.int (nI i))] [] (putR M 18 0 (begC 99 (thg S t 1)) i) := by
    intro j
    induction j with
    | zero =>
      intro i hij
      refine r_iload2 hR dX8_begins_2 ?_
      refine r_bipush hR (nI 36) (by decide) dX8_begins_3 ?_
      refine r_icmp_ge hR 36 dX8_begins_5 (by decide) (fun c5 => ?_) (fun c5 => ?_)
      · try simp (disch := omega) only [nI_ltI, nI_leI, nI_eq, bI_0, Decidable.not_not, lc_lt, lc_gt, lc_ge, lc_le, lc_eq, i64_toInt] at c5
        try simp (disch := omega) only [cv_lt, cv_le, cv_eq, nI_toInt, cv_0] at c5
        first
        | omega
        | refine r_vret hR dX8_begins_36 ?_
          obtain rfl : i = 36 := by omega
          exact ⟨rfl, rfl⟩
      · try simp (disch := omega) only [nI_ltI, nI_leI, nI_eq, bI_0, Decidable.not_not, lc_lt, lc_gt, lc_ge, lc_le, lc_eq, i64_toInt] at c5
        try simp (disch := omega) only [cv_lt, cv_le, cv_eq, nI_toInt, cv_0] at c5
        first
        | omega
        | refine r_aload0 hR dX8_begins_8 ?_
          refine r_get hR (by first | decide | assumption | (simp only [gcnt_4, gcnt_1, gcnt_2, gcnt_3, gcnt_12, gcnt_13, gcnt_16]; omega)) fl_X8_22 rfl rfl dX8_begins_9 ?_
          refine r_iload2 hR dX8_begins_12 ?_
          refine r_iload2 hR dX8_begins_13 ?_
          refine r_aload0 hR dX8_begins_14 ?_
          refine r_iload1 hR dX8_begins_15 ?_
          refine r_iconst hR (nI 1) (by decide) dX8_begins_16 ?_
          refine r_cv2v hR kv_X8_75 (by decide) (t_X8_it (rowP_eqY (eqY_putR M 0 _ i) h) ht (by decide) w3) (by first | decide | assumption | (simp only [gcnt_4, gcnt_1, gcnt_2, gcnt_3, gcnt_12, gcnt_13, gcnt_16]; omega)) rfl rfl (Nat.le_of_ble_eq_true rfl) dX8_begins_17 ?_
          refine r_icmp_ne hR 27 dX8_begins_20 (by decide) (fun c20 => ?_) (fun c20 => ?_)
          · try simp (disch := omega) only [nI_ltI, nI_leI, nI_eq, bI_0, Decidable.not_not, lc_lt, lc_gt, lc_ge, lc_le, lc_eq, i64_toInt] at c20
            try simp (disch := omega) only [cv_lt, cv_le, cv_eq, nI_toInt, cv_0] at c20
            first
            | omega
            | refine r_bipush hR (nI 99) (by decide) dX8_begins_27 ?_
              omega
          · try simp (disch := omega) only [nI_ltI, nI_leI, nI_eq, bI_0, Decidable.not_not, lc_lt, lc_gt, lc_ge, lc_le, lc_eq, i64_toInt] at c20
            try simp (disch := omega) only [cv_lt, cv_le, cv_eq, nI_toInt, cv_0] at c20
            first
            | omega
            | refine r_iconst hR (nI 0) (by decide) dX8_begins_23 ?_
              refine r_goto hR 29 dX8_begins_24 (by decide) ?_
              omega
    | succ j ih =>
      intro i hij
      have J29 : P 29 [some (.ref (ad G 15 0)), some (.int (nI t)), some (.int (nI i))] [.int (nI ((begC 99 (thg S t 1)) i)), .int (nI i), .ref (ad G 18 0)] (putR M 18 0 (begC 99 (thg S t 1)) i) := by
        refine r_iast hR (by first | decide | assumption | (simp only [gcnt_4, gcnt_1, gcnt_2, gcnt_3, gcnt_12, gcnt_13, gcnt_16]; omega)) (fun _ => rfl) rfl (by omega) (by decide) dX8_begins_29 ?_
        refine r_iinc2 hR (nI 1) (by decide) (fun _ h => by first | (cases h; rfl) | exact absurd h (by simp)) dX8_begins_30 ?_
        try rw [nI_add]
        refine r_goto hR 2 dX8_begins_33 (by decide) ?_
        rw [putR_grow]
        exact ih (i + 1) (by omega)
      refine r_iload2 hR dX8_begins_2 ?_
      refine r_bipush hR (nI 36) (by decide) dX8_begins_3 ?_
      refine r_icmp_ge hR 36 dX8_begins_5 (by decide) (fun c5 => ?_) (fun c5 => ?_)
      · try simp (disch := omega) only [nI_ltI, nI_leI, nI_eq, bI_0, Decidable.not_not, lc_lt, lc_gt, lc_ge, lc_le, lc_eq, i64_toInt] at c5
        try simp (disch := omega) only [cv_lt, cv_le, cv_eq, nI_toInt, cv_0] at c5
        first
        | omega
        | refine r_vret hR dX8_begins_36 ?_
          omega
      · try simp (disch := omega) only [nI_ltI, nI_leI, nI_eq, bI_0, Decidable.not_not, lc_lt, lc_gt, lc_ge, lc_le, lc_eq, i64_toInt] at c5
        try simp (disch := omega) only [cv_lt, cv_le, cv_eq, nI_toInt, cv_0] at c5
        first
        | omega
        | refine r_aload0 hR dX8_begins_8 ?_
          refine r_get hR (by first | decide | assumption | (simp only [gcnt_4, gcnt_1, gcnt_2, gcnt_3, gcnt_12, gcnt_13, gcnt_16]; omega)) fl_X8_22 rfl rfl dX8_begins_9 ?_
          refine r_iload2 hR dX8_begins_12 ?_
          refine r_iload2 hR dX8_begins_13 ?_
          refine r_aload0 hR dX8_begins_14 ?_
          refine r_iload1 hR dX8_begins_15 ?_
          refine r_iconst hR (nI 1) (by decide) dX8_begins_16 ?_
          refine r_cv2v hR kv_X8_75 (by decide) (t_X8_it (rowP_eqY (eqY_putR M 0 _ i) h) ht (by decide) w3) (by first | decide | assumption | (simp only [gcnt_4, gcnt_1, gcnt_2, gcnt_3, gcnt_12, gcnt_13, gcnt_16]; omega)) rfl rfl (Nat.le_of_ble_eq_true rfl) dX8_begins_17 ?_
          refine r_icmp_ne hR 27 dX8_begins_20 (by decide) (fun c20 => ?_) (fun c20 => ?_)
          · try simp (disch := omega) only [nI_ltI, nI_leI, nI_eq, bI_0, Decidable.not_not, lc_lt, lc_gt, lc_ge, lc_le, lc_eq, i64_toInt] at c20
            try simp (disch := omega) only [cv_lt, cv_le, cv_eq, nI_toInt, cv_0] at c20
            first
            | omega
            | refine r_bipush hR (nI 99) (by decide) dX8_begins_27 ?_
              refine r_nm (nI ((begC 99 (thg S t 1)) i)) (by unfold begC; split <;> first | rfl | omega) ?_
              exact J29
          · try simp (disch := omega) only [nI_ltI, nI_leI, nI_eq, bI_0, Decidable.not_not, lc_lt, lc_gt, lc_ge, lc_le, lc_eq, i64_toInt] at c20
            try simp (disch := omega) only [cv_lt, cv_le, cv_eq, nI_toInt, cv_0] at c20
            first
            | omega
            | refine r_iconst hR (nI 0) (by decide) dX8_begins_23 ?_
              refine r_goto hR 29 dX8_begins_24 (by decide) ?_
              refine r_nm (nI ((begC 99 (thg S t 1)) i)) (by unfold begC; split <;> first | rfl | omega) ?_
              exact J29
  refine r_iconst hR (nI 0) (by decide) dX8_begins_0 ?_
  refine r_istore2 hR (fun _ h => by first | (cases h; rfl) | exact absurd h (by simp)) dX8_begins_1 ?_
  refine r_mem (putR_z M 18 0 (begC 99 (thg S t 1))).symm ?_
  exact L 36 0 rfl

set_option maxHeartbeats 4000000 in
set_option maxRecDepth 100000 in
theorem t_X8_cheaper {G : gG} {M : gM} {N : Nat → Nat} {x v : Nat} (hN : ∀ j, j < 36 → M.1 18 1 j = nI (N j)) (hB : ∀ j, N j ≤ 2000) (hx : x < 36) (hv : v < 2000) : Cf G mX8_cheaper 0 [.ref (ad G 15 0), .int (nI x), .int (nI v)] M none (putR M 18 1 (low N x v) 36) := by
  have hBx := hB x
  refine Ct.of (by decide +kernel) (k := 0) (ls0 := [some (.ref (ad G 15 0)), some (.int (nI x)), some (.int (nI v))]) rfl rfl (fun _ _ => trivial) ?_
  intro P hR
  have J25 : P 25 [some (.ref (ad G 15 0)), some (.int (nI x)), some (.int (nI v))] [.int (nI (low N x v x)), .int (nI x), .ref (ad G 18 1)] M := by
    refine r_iast hR (by first | decide | assumption | (simp only [gcnt_4, gcnt_1, gcnt_2, gcnt_3, gcnt_12, gcnt_13, gcnt_16]; omega)) (fun _ => rfl) rfl (by omega) (by decide) dX8_cheaper_25 ?_
    refine r_vret hR dX8_cheaper_26 ?_
    refine ⟨rfl, ?_⟩
    unfold low
    by_cases q : v < N x
    · rw [if_pos q, vu_s, ← putR_seti M 18 1 N hx, putR_id hN]
    · rw [if_neg q]
      refine (congrArg (fun z => seti z 18 1 x (nI (N x))) (putR_id hN).symm).trans ?_
      rw [putR_seti M 18 1 N hx]
      refine putR_cong (fun j _ => ?_)
      rw [vu_r]
      split
      · rename_i e; rw [e]
      · rfl
  refine r_aload0 hR dX8_cheaper_0 ?_
  refine r_get hR (by first | decide | assumption | (simp only [gcnt_4, gcnt_1, gcnt_2, gcnt_3, gcnt_12, gcnt_13, gcnt_16]; omega)) fl_X8_25 rfl rfl dX8_cheaper_1 ?_
  refine r_iload1 hR dX8_cheaper_4 ?_
  refine r_iload2 hR dX8_cheaper_5 ?_
  refine r_aload0 hR dX8_cheaper_6 ?_
  refine r_get hR (by first | decide | assumption | (simp only [gcnt_4, gcnt_1, gcnt_2, gcnt_3, gcnt_12, gcnt_13, gcnt_16]; omega)) fl_X8_25 rfl rfl dX8_cheaper_7 ?_
  refine r_iload1 hR dX8_cheaper_10 ?_
  refine r_iald hR (by first | decide | assumption | (simp only [gcnt_4, gcnt_1, gcnt_2, gcnt_3, gcnt_12, gcnt_13, gcnt_16]; omega)) rfl rfl (by omega) (by decide) dX8_cheaper_11 ?_
  rw [hN x hx]
  refine r_icmp_ge hR 19 dX8_cheaper_12 (by decide) (fun c12 => ?_) (fun c12 => ?_)
  · try simp (disch := omega) only [nI_ltI, nI_leI, nI_eq, bI_0, Decidable.not_not, lc_lt, lc_gt, lc_ge, lc_le, lc_eq, i64_toInt] at c12
    try simp (disch := omega) only [cv_lt, cv_le, cv_eq, nI_toInt, cv_0] at c12
    first
    | omega
    | refine r_aload0 hR dX8_cheaper_19 ?_
      refine r_get hR (by first | decide | assumption | (simp only [gcnt_4, gcnt_1, gcnt_2, gcnt_3, gcnt_12, gcnt_13, gcnt_16]; omega)) fl_X8_25 rfl rfl dX8_cheaper_20 ?_
      refine r_iload1 hR dX8_cheaper_23 ?_
      refine r_iald hR (by first | decide | assumption | (simp only [gcnt_4, gcnt_1, gcnt_2, gcnt_3, gcnt_12, gcnt_13, gcnt_16]; omega)) rfl rfl (by omega) (by decide) dX8_cheaper_24 ?_
      rw [hN x hx]
      refine r_nm (nI (low N x v x)) ?_ J25
      unfold low
      first
      | (rw [if_pos (by omega), vu_s]; done)
      | rw [if_neg (by omega)]
  · try simp (disch := omega) only [nI_ltI, nI_leI, nI_eq, bI_0, Decidable.not_not, lc_lt, lc_gt, lc_ge, lc_le, lc_eq, i64_toInt] at c12
    try simp (disch := omega) only [cv_lt, cv_le, cv_eq, nI_toInt, cv_0] at c12
    first
    | omega
    | refine r_iload2 hR dX8_cheaper_15 ?_
      refine r_goto hR 25 dX8_cheaper_16 (by decide) ?_
      refine r_nm (nI (low N x v x)) ?_ J25
      unfold low
      first
      | (rw [if_pos (by omega), vu_s]; done)
      | rw [if_neg (by omega)]

set_option maxHeartbeats 4000000 in
set_option maxRecDepth 100000 in
theorem t_X8_dayOn {G : gG} {M : gM} {S : Nat → Nat} (h : rowP M 0 S) (hwf : wfS S) {t day : Nat} {K : Nat → Nat} (ht : t < S 3) (hd : day < 2 ^ 31) (hK : ∀ j, j < 36 → M.1 18 0 j = nI (K j)) (hKb : ∀ j, K j ≤ 99) : Cf G mX8_dayOn 4 [.ref (ad G 15 0), .int (nI t), .int (nI day)] M none (putR (putR M 18 1 (stepP 99 K (thg S t 0) (thg S t 2) (S 1) (blow S day) 36) 36) 18 0 (stepP 99 K (thg S t 0) (thg S t 2) (S 1) (blow S day) 36) 36) := by
  obtain ⟨w0, w1, w2, w3, wr, wt⟩ := id hwf
  have q0 : thg S t 0 < 6 := by have := wt t ht; unfold thg; rw [Nat.add_zero]; omega
  have q1 : thg S t 1 < 36 := by have := wt t ht; unfold thg; omega
  have q2 : thg S t 2 < 8 := by have := wt t ht; unfold thg; omega
  have q3 : thg S t 3 ≤ 99999 := by have := wt t ht; unfold thg; omega
  refine Ct.of (by decide +kernel) (k := 3) (ls0 := [some (.ref (ad G 15 0)), some (.int (nI t)), some (.int (nI day)), none, none, none]) rfl rfl (fun _ _ => trivial) ?_
  intro P hR
  obtain ⟨own, hown⟩ : ∃ o, blow S day = o := ⟨_, rfl⟩
  rw [hown] at hR
  have how : own < 9 := by have := blow_le (S := S) (d := day) wr; omega
  have L4 : ∀ (j i : Nat) (x5 : Option Value), i + j = 36 → P 119 [some (.ref (ad G 15 0)), some (.int (nI t)), some (.int (nI day)), some (.int (nI own)), some (.int (nI i)), x5] [] (putR (putR M 18 1 (stepP 99 K (thg S t 0) (thg S t 2) (S 1) own 36) 36) 18 0 (stepP 99 K (thg S t 0) (thg S t 2) (S 1) own 36) i) := by
    intro j
    induction j with
    | zero =>
      intro i x5 hij 
      refine r_iload4 hR dX8_dayOn_119 ?_
      refine r_bipush hR (nI 36) (by decide) dX8_dayOn_121 ?_
      refine r_icmp_ge hR 146 dX8_dayOn_123 (by decide) (fun c123 => ?_) (fun c123 => ?_)
      · try simp (disch := omega) only [nI_ltI, nI_leI, nI_eq, bI_0, Decidable.not_not, lc_lt, lc_gt, lc_ge, lc_le, lc_eq, i64_toInt] at c123
        try simp (disch := omega) only [cv_lt, cv_le, cv_eq, nI_toInt, cv_0] at c123
        first
        | omega
        | refine r_vret hR dX8_dayOn_146 ?_
          obtain rfl : i = 36 := by omega
          exact ⟨rfl, rfl⟩
      · try simp (disch := omega) only [nI_ltI, nI_leI, nI_eq, bI_0, Decidable.not_not, lc_lt, lc_gt, lc_ge, lc_le, lc_eq, i64_toInt] at c123
        try simp (disch := omega) only [cv_lt, cv_le, cv_eq, nI_toInt, cv_0] at c123
        first
        | omega
        | refine r_aload0 hR dX8_dayOn_126 ?_
          refine r_get hR (by first | decide | assumption | (simp only [gcnt_4, gcnt_1, gcnt_2, gcnt_3, gcnt_12, gcnt_13, gcnt_16]; omega)) fl_X8_22 rfl rfl dX8_dayOn_127 ?_
          refine r_iload4 hR dX8_dayOn_130 ?_
          refine r_aload0 hR dX8_dayOn_132 ?_
          refine r_get hR (by first | decide | assumption | (simp only [gcnt_4, gcnt_1, gcnt_2, gcnt_3, gcnt_12, gcnt_13, gcnt_16]; omega)) fl_X8_25 rfl rfl dX8_dayOn_133 ?_
          refine r_iload4 hR dX8_dayOn_136 ?_
          refine r_iald hR (by first | decide | assumption | (simp only [gcnt_4, gcnt_1, gcnt_2, gcnt_3, gcnt_12, gcnt_13, gcnt_16]; omega)) rfl rfl (by omega) (by decide) dX8_dayOn_138 ?_
          rw [putR_far _ _ _ (by omega), putR_at M 18 1 _ (by omega)]
          refine r_iast hR (by first | decide | assumption | (simp only [gcnt_4, gcnt_1, gcnt_2, gcnt_3, gcnt_12, gcnt_13, gcnt_16]; omega)) (fun _ => rfl) rfl (by omega) (by decide) dX8_dayOn_139 ?_
          refine r_iinc4 hR (nI 1) (by decide) (fun _ h => by first | (cases h; rfl) | exact absurd h (by simp)) dX8_dayOn_140 ?_
          try rw [nI_add]
          refine r_goto hR 119 dX8_dayOn_143 (by decide) ?_
          omega
    | succ j ih =>
      intro i x5 hij 
      refine r_iload4 hR dX8_dayOn_119 ?_
      refine r_bipush hR (nI 36) (by decide) dX8_dayOn_121 ?_
      refine r_icmp_ge hR 146 dX8_dayOn_123 (by decide) (fun c123 => ?_) (fun c123 => ?_)
      · try simp (disch := omega) only [nI_ltI, nI_leI, nI_eq, bI_0, Decidable.not_not, lc_lt, lc_gt, lc_ge, lc_le, lc_eq, i64_toInt] at c123
        try simp (disch := omega) only [cv_lt, cv_le, cv_eq, nI_toInt, cv_0] at c123
        first
        | omega
        | refine r_vret hR dX8_dayOn_146 ?_
          obtain rfl : i = 36 := by omega
          exact ⟨rfl, rfl⟩
      · try simp (disch := omega) only [nI_ltI, nI_leI, nI_eq, bI_0, Decidable.not_not, lc_lt, lc_gt, lc_ge, lc_le, lc_eq, i64_toInt] at c123
        try simp (disch := omega) only [cv_lt, cv_le, cv_eq, nI_toInt, cv_0] at c123
        first
        | omega
        | refine r_aload0 hR dX8_dayOn_126 ?_
          refine r_get hR (by first | decide | assumption | (simp only [gcnt_4, gcnt_1, gcnt_2, gcnt_3, gcnt_12, gcnt_13, gcnt_16]; omega)) fl_X8_22 rfl rfl dX8_dayOn_127 ?_
          refine r_iload4 hR dX8_dayOn_130 ?_
          refine r_aload0 hR dX8_dayOn_132 ?_
          refine r_get hR (by first | decide | assumption | (simp only [gcnt_4, gcnt_1, gcnt_2, gcnt_3, gcnt_12, gcnt_13, gcnt_16]; omega)) fl_X8_25 rfl rfl dX8_dayOn_133 ?_
          refine r_iload4 hR dX8_dayOn_136 ?_
          refine r_iald hR (by first | decide | assumption | (simp only [gcnt_4, gcnt_1, gcnt_2, gcnt_3, gcnt_12, gcnt_13, gcnt_16]; omega)) rfl rfl (by omega) (by decide) dX8_dayOn_138 ?_
          rw [putR_far _ _ _ (by omega), putR_at M 18 1 _ (by omega)]
          refine r_iast hR (by first | decide | assumption | (simp only [gcnt_4, gcnt_1, gcnt_2, gcnt_3, gcnt_12, gcnt_13, gcnt_16]; omega)) (fun _ => rfl) rfl (by omega) (by decide) dX8_dayOn_139 ?_
          refine r_iinc4 hR (nI 1) (by decide) (fun _ h => by first | (cases h; rfl) | exact absurd h (by simp)) dX8_dayOn_140 ?_
          try rw [nI_add]
          refine r_goto hR 119 dX8_dayOn_143 (by decide) ?_
          rw [putR_grow _ 18 0]
          exact ih (i + 1) _ (by omega)
  have L2 : ∀ (j i : Nat) (x5 : Option Value), i + j = 36 → P 34 [some (.ref (ad G 15 0)), some (.int (nI t)), some (.int (nI day)), some (.int (nI own)), some (.int (nI i)), x5] [] (putR M 18 1 (stepP 99 K (thg S t 0) (thg S t 2) (S 1) own i) 36) := by
    intro j
    induction j with
    | zero =>
      intro i x5 hij
      refine r_iload4 hR dX8_dayOn_34 ?_
      refine r_bipush hR (nI 36) (by decide) dX8_dayOn_36 ?_
      refine r_icmp_ge hR 116 dX8_dayOn_38 (by decide) (fun c38 => ?_) (fun c38 => ?_)
      · try simp (disch := omega) only [nI_ltI, nI_leI, nI_eq, bI_0, Decidable.not_not, lc_lt, lc_gt, lc_ge, lc_le, lc_eq, i64_toInt] at c38
        try simp (disch := omega) only [cv_lt, cv_le, cv_eq, nI_toInt, cv_0] at c38
        first
        | omega
        | refine r_iconst hR (nI 0) (by decide) dX8_dayOn_116 ?_
          refine r_istore4 hR (fun _ h => by first | (cases h; rfl) | exact absurd h (by simp)) dX8_dayOn_117 ?_
          obtain rfl : i = 36 := by omega
          refine r_mem (putR_z _ 18 0 (stepP 99 K (thg S t 0) (thg S t 2) (S 1) own 36)).symm ?_
          exact L4 36 0 _ rfl
      · try simp (disch := omega) only [nI_ltI, nI_leI, nI_eq, bI_0, Decidable.not_not, lc_lt, lc_gt, lc_ge, lc_le, lc_eq, i64_toInt] at c38
        try simp (disch := omega) only [cv_lt, cv_le, cv_eq, nI_toInt, cv_0] at c38
        first
        | omega
        | refine r_aload0 hR dX8_dayOn_41 ?_
          refine r_get hR (by first | decide | assumption | (simp only [gcnt_4, gcnt_1, gcnt_2, gcnt_3, gcnt_12, gcnt_13, gcnt_16]; omega)) fl_X8_22 rfl rfl dX8_dayOn_42 ?_
          refine r_iload4 hR dX8_dayOn_45 ?_
          refine r_iald hR (by first | decide | assumption | (simp only [gcnt_4, gcnt_1, gcnt_2, gcnt_3, gcnt_12, gcnt_13, gcnt_16]; omega)) rfl rfl (by omega) (by decide) dX8_dayOn_47 ?_
          rw [putR_far M _ 36 (by omega), hK i (by omega)]
          have hKi := hKb i
          refine r_bipush hR (nI 99) (by decide) dX8_dayOn_48 ?_
          refine r_icmp_ge hR 110 dX8_dayOn_50 (by decide) (fun c50 => ?_) (fun c50 => ?_)
          · try simp (disch := omega) only [nI_ltI, nI_leI, nI_eq, bI_0, Decidable.not_not, lc_lt, lc_gt, lc_ge, lc_le, lc_eq, i64_toInt] at c50
            try simp (disch := omega) only [cv_lt, cv_le, cv_eq, nI_toInt, cv_0] at c50
            first
            | omega
            | refine r_iinc4 hR (nI 1) (by decide) (fun _ h => by first | (cases h; rfl) | exact absurd h (by simp)) dX8_dayOn_110 ?_
              try rw [nI_add]
              refine r_goto hR 34 dX8_dayOn_113 (by decide) ?_
              omega
          · try simp (disch := omega) only [nI_ltI, nI_leI, nI_eq, bI_0, Decidable.not_not, lc_lt, lc_gt, lc_ge, lc_le, lc_eq, i64_toInt] at c50
            try simp (disch := omega) only [cv_lt, cv_le, cv_eq, nI_toInt, cv_0] at c50
            first
            | omega
            | refine r_aload0 hR dX8_dayOn_53 ?_
              refine r_aload0 hR dX8_dayOn_54 ?_
              refine r_iload1 hR dX8_dayOn_55 ?_
              refine r_iload4 hR dX8_dayOn_56 ?_
              refine r_iload3 hR dX8_dayOn_58 ?_
              refine r_cv3v hR kv_X8_105 (by decide) (t_X8_wentTo (rowP_eqY (eqY_putR M 1 _ 36) h) hwf ht (by omega) how) (by first | decide | assumption | (simp only [gcnt_4, gcnt_1, gcnt_2, gcnt_3, gcnt_12, gcnt_13, gcnt_16]; omega)) rfl rfl (Nat.le_of_ble_eq_true rfl) dX8_dayOn_59 ?_
              refine r_aload0 hR dX8_dayOn_62 ?_
              refine r_get hR (by first | decide | assumption | (simp only [gcnt_4, gcnt_1, gcnt_2, gcnt_3, gcnt_12, gcnt_13, gcnt_16]; omega)) fl_X8_22 rfl rfl dX8_dayOn_63 ?_
              refine r_iload4 hR dX8_dayOn_66 ?_
              refine r_iald hR (by first | decide | assumption | (simp only [gcnt_4, gcnt_1, gcnt_2, gcnt_3, gcnt_12, gcnt_13, gcnt_16]; omega)) rfl rfl (by omega) (by decide) dX8_dayOn_68 ?_
              rw [putR_far M _ 36 (by omega), hK i (by omega)]
              refine r_cv2u hR kv_X8_130 (by decide) (t_X8_cheaper (fun j hj => putR_at M 18 1 _ hj) (fun j => Nat.le_trans ((stepP_le i) j) (by decide)) (wen_lt (by omega)) (by omega)) (by first | decide | assumption | (simp only [gcnt_4, gcnt_1, gcnt_2, gcnt_3, gcnt_12, gcnt_13, gcnt_16]; omega)) rfl rfl (Nat.le_of_ble_eq_true rfl) dX8_dayOn_69 ?_
              refine r_iconst hR (nI 0) (by decide) dX8_dayOn_72 ?_
              refine r_istore5 hR (fun _ h => by first | (cases h; rfl) | exact absurd h (by simp)) dX8_dayOn_73 ?_
              omega
    | succ j ih =>
      intro i x5 hij
      refine r_iload4 hR dX8_dayOn_34 ?_
      refine r_bipush hR (nI 36) (by decide) dX8_dayOn_36 ?_
      refine r_icmp_ge hR 116 dX8_dayOn_38 (by decide) (fun c38 => ?_) (fun c38 => ?_)
      · try simp (disch := omega) only [nI_ltI, nI_leI, nI_eq, bI_0, Decidable.not_not, lc_lt, lc_gt, lc_ge, lc_le, lc_eq, i64_toInt] at c38
        try simp (disch := omega) only [cv_lt, cv_le, cv_eq, nI_toInt, cv_0] at c38
        first
        | omega
        | refine r_iconst hR (nI 0) (by decide) dX8_dayOn_116 ?_
          refine r_istore4 hR (fun _ h => by first | (cases h; rfl) | exact absurd h (by simp)) dX8_dayOn_117 ?_
          omega
      · try simp (disch := omega) only [nI_ltI, nI_leI, nI_eq, bI_0, Decidable.not_not, lc_lt, lc_gt, lc_ge, lc_le, lc_eq, i64_toInt] at c38
        try simp (disch := omega) only [cv_lt, cv_le, cv_eq, nI_toInt, cv_0] at c38
        first
        | omega
        | refine r_aload0 hR dX8_dayOn_41 ?_
          refine r_get hR (by first | decide | assumption | (simp only [gcnt_4, gcnt_1, gcnt_2, gcnt_3, gcnt_12, gcnt_13, gcnt_16]; omega)) fl_X8_22 rfl rfl dX8_dayOn_42 ?_
          refine r_iload4 hR dX8_dayOn_45 ?_
          refine r_iald hR (by first | decide | assumption | (simp only [gcnt_4, gcnt_1, gcnt_2, gcnt_3, gcnt_12, gcnt_13, gcnt_16]; omega)) rfl rfl (by omega) (by decide) dX8_dayOn_47 ?_
          rw [putR_far M _ 36 (by omega), hK i (by omega)]
          have hKi := hKb i
          refine r_bipush hR (nI 99) (by decide) dX8_dayOn_48 ?_
          refine r_icmp_ge hR 110 dX8_dayOn_50 (by decide) (fun c50 => ?_) (fun c50 => ?_)
          · try simp (disch := omega) only [nI_ltI, nI_leI, nI_eq, bI_0, Decidable.not_not, lc_lt, lc_gt, lc_ge, lc_le, lc_eq, i64_toInt] at c50
            try simp (disch := omega) only [cv_lt, cv_le, cv_eq, nI_toInt, cv_0] at c50
            first
            | omega
            | refine r_iinc4 hR (nI 1) (by decide) (fun _ h => by first | (cases h; rfl) | exact absurd h (by simp)) dX8_dayOn_110 ?_
              try rw [nI_add]
              refine r_goto hR 34 dX8_dayOn_113 (by decide) ?_
              refine r_mem (M2 := (putR M 18 1 (stepP 99 K (thg S t 0) (thg S t 2) (S 1) own (i + 1)) 36)) ?_ (ih (i + 1) _ (by omega))
              show _ = putR M 18 1 (rowC 99 (stepP 99 K (thg S t 0) (thg S t 2) (S 1) own i) K (thg S t 0) (thg S t 2) (S 1) own i) 36
              unfold rowC
              rw [if_neg (by omega)]
          · try simp (disch := omega) only [nI_ltI, nI_leI, nI_eq, bI_0, Decidable.not_not, lc_lt, lc_gt, lc_ge, lc_le, lc_eq, i64_toInt] at c50
            try simp (disch := omega) only [cv_lt, cv_le, cv_eq, nI_toInt, cv_0] at c50
            first
            | omega
            | have L3 : ∀ (j3 k : Nat), k + j3 = 8 → P 75 [some (.ref (ad G 15 0)), some (.int (nI t)), some (.int (nI day)), some (.int (nI own)), some (.int (nI i)), some (.int (nI k))] [] (putR M 18 1 (lowW (low (stepP 99 K (thg S t 0) (thg S t 2) (S 1) own i) (wenN (thg S t 0) (thg S t 2) (S 1) i own) (K i)) K i (thg S t 0) (thg S t 2) (S 1) k) 36) := by
                intro j3
                induction j3 with
                | zero =>
                  intro k hk3
                  refine r_iload5 hR dX8_dayOn_75 ?_
                  refine r_bipush hR (nI 8) (by decide) dX8_dayOn_77 ?_
                  refine r_icmp_ge hR 110 dX8_dayOn_79 (by decide) (fun c79 => ?_) (fun c79 => ?_)
                  · try simp (disch := omega) only [nI_ltI, nI_leI, nI_eq, bI_0, Decidable.not_not, lc_lt, lc_gt, lc_ge, lc_le, lc_eq, i64_toInt] at c79
                    try simp (disch := omega) only [cv_lt, cv_le, cv_eq, nI_toInt, cv_0] at c79
                    first
                    | omega
                    | refine r_iinc4 hR (nI 1) (by decide) (fun _ h => by first | (cases h; rfl) | exact absurd h (by simp)) dX8_dayOn_110 ?_
                      try rw [nI_add]
                      refine r_goto hR 34 dX8_dayOn_113 (by decide) ?_
                      refine r_mem (M2 := (putR M 18 1 (stepP 99 K (thg S t 0) (thg S t 2) (S 1) own (i + 1)) 36)) ?_ (ih (i + 1) _ (by omega))
                      obtain rfl : k = 8 := by omega
                      show _ = putR M 18 1 (rowC 99 (stepP 99 K (thg S t 0) (thg S t 2) (S 1) own i) K (thg S t 0) (thg S t 2) (S 1) own i) 36
                      unfold rowC
                      rw [if_pos (by omega)]
                  · try simp (disch := omega) only [nI_ltI, nI_leI, nI_eq, bI_0, Decidable.not_not, lc_lt, lc_gt, lc_ge, lc_le, lc_eq, i64_toInt] at c79
                    try simp (disch := omega) only [cv_lt, cv_le, cv_eq, nI_toInt, cv_0] at c79
                    first
                    | omega
                    | refine r_aload0 hR dX8_dayOn_82 ?_
                      refine r_aload0 hR dX8_dayOn_83 ?_
                      refine r_iload1 hR dX8_dayOn_84 ?_
                      refine r_iload4 hR dX8_dayOn_85 ?_
                      refine r_iload5 hR dX8_dayOn_87 ?_
                      refine r_cv3v hR kv_X8_105 (by decide) (t_X8_wentTo (rowP_eqY (eqY_putR M 1 _ 36) h) hwf ht (by omega) (by omega)) (by first | decide | assumption | (simp only [gcnt_4, gcnt_1, gcnt_2, gcnt_3, gcnt_12, gcnt_13, gcnt_16]; omega)) rfl rfl (Nat.le_of_ble_eq_true rfl) dX8_dayOn_89 ?_
                      refine r_aload0 hR dX8_dayOn_92 ?_
                      refine r_get hR (by first | decide | assumption | (simp only [gcnt_4, gcnt_1, gcnt_2, gcnt_3, gcnt_12, gcnt_13, gcnt_16]; omega)) fl_X8_22 rfl rfl dX8_dayOn_93 ?_
                      refine r_iload4 hR dX8_dayOn_96 ?_
                      refine r_iald hR (by first | decide | assumption | (simp only [gcnt_4, gcnt_1, gcnt_2, gcnt_3, gcnt_12, gcnt_13, gcnt_16]; omega)) rfl rfl (by omega) (by decide) dX8_dayOn_98 ?_
                      rw [putR_far M _ 36 (by omega), hK i (by omega)]
                      refine r_iconst hR (nI 1) (by decide) dX8_dayOn_99 ?_
                      refine r_iadd hR dX8_dayOn_100 ?_
                      try rw [nI_add]
                      refine r_cv2u hR kv_X8_130 (by decide) (t_X8_cheaper (fun j hj => putR_at M 18 1 _ hj) (fun j => Nat.le_trans ((lowW_le (low_le (stepP_le i)) k) j) (by decide)) (wen_lt (by omega)) (by omega)) (by first | decide | assumption | (simp only [gcnt_4, gcnt_1, gcnt_2, gcnt_3, gcnt_12, gcnt_13, gcnt_16]; omega)) rfl rfl (Nat.le_of_ble_eq_true rfl) dX8_dayOn_101 ?_
                      refine r_mem (putR_put M 18 1 _ _ (Nat.le_refl 36)) ?_
                      refine r_iinc5 hR (nI 1) (by decide) (fun _ h => by first | (cases h; rfl) | exact absurd h (by simp)) dX8_dayOn_104 ?_
                      try rw [nI_add]
                      refine r_goto hR 75 dX8_dayOn_107 (by decide) ?_
                      omega
                | succ j3 ih3 =>
                  intro k hk3
                  refine r_iload5 hR dX8_dayOn_75 ?_
                  refine r_bipush hR (nI 8) (by decide) dX8_dayOn_77 ?_
                  refine r_icmp_ge hR 110 dX8_dayOn_79 (by decide) (fun c79 => ?_) (fun c79 => ?_)
                  · try simp (disch := omega) only [nI_ltI, nI_leI, nI_eq, bI_0, Decidable.not_not, lc_lt, lc_gt, lc_ge, lc_le, lc_eq, i64_toInt] at c79
                    try simp (disch := omega) only [cv_lt, cv_le, cv_eq, nI_toInt, cv_0] at c79
                    first
                    | omega
                    | refine r_iinc4 hR (nI 1) (by decide) (fun _ h => by first | (cases h; rfl) | exact absurd h (by simp)) dX8_dayOn_110 ?_
                      try rw [nI_add]
                      refine r_goto hR 34 dX8_dayOn_113 (by decide) ?_
                      omega
                  · try simp (disch := omega) only [nI_ltI, nI_leI, nI_eq, bI_0, Decidable.not_not, lc_lt, lc_gt, lc_ge, lc_le, lc_eq, i64_toInt] at c79
                    try simp (disch := omega) only [cv_lt, cv_le, cv_eq, nI_toInt, cv_0] at c79
                    first
                    | omega
                    | refine r_aload0 hR dX8_dayOn_82 ?_
                      refine r_aload0 hR dX8_dayOn_83 ?_
                      refine r_iload1 hR dX8_dayOn_84 ?_
                      refine r_iload4 hR dX8_dayOn_85 ?_
                      refine r_iload5 hR dX8_dayOn_87 ?_
                      refine r_cv3v hR kv_X8_105 (by decide) (t_X8_wentTo (rowP_eqY (eqY_putR M 1 _ 36) h) hwf ht (by omega) (by omega)) (by first | decide | assumption | (simp only [gcnt_4, gcnt_1, gcnt_2, gcnt_3, gcnt_12, gcnt_13, gcnt_16]; omega)) rfl rfl (Nat.le_of_ble_eq_true rfl) dX8_dayOn_89 ?_
                      refine r_aload0 hR dX8_dayOn_92 ?_
                      refine r_get hR (by first | decide | assumption | (simp only [gcnt_4, gcnt_1, gcnt_2, gcnt_3, gcnt_12, gcnt_13, gcnt_16]; omega)) fl_X8_22 rfl rfl dX8_dayOn_93 ?_
                      refine r_iload4 hR dX8_dayOn_96 ?_
                      refine r_iald hR (by first | decide | assumption | (simp only [gcnt_4, gcnt_1, gcnt_2, gcnt_3, gcnt_12, gcnt_13, gcnt_16]; omega)) rfl rfl (by omega) (by decide) dX8_dayOn_98 ?_
                      rw [putR_far M _ 36 (by omega), hK i (by omega)]
                      refine r_iconst hR (nI 1) (by decide) dX8_dayOn_99 ?_
                      refine r_iadd hR dX8_dayOn_100 ?_
                      try rw [nI_add]
                      refine r_cv2u hR kv_X8_130 (by decide) (t_X8_cheaper (fun j hj => putR_at M 18 1 _ hj) (fun j => Nat.le_trans ((lowW_le (low_le (stepP_le i)) k) j) (by decide)) (wen_lt (by omega)) (by omega)) (by first | decide | assumption | (simp only [gcnt_4, gcnt_1, gcnt_2, gcnt_3, gcnt_12, gcnt_13, gcnt_16]; omega)) rfl rfl (Nat.le_of_ble_eq_true rfl) dX8_dayOn_101 ?_
                      refine r_mem (putR_put M 18 1 _ _ (Nat.le_refl 36)) ?_
                      refine r_iinc5 hR (nI 1) (by decide) (fun _ h => by first | (cases h; rfl) | exact absurd h (by simp)) dX8_dayOn_104 ?_
                      try rw [nI_add]
                      refine r_goto hR 75 dX8_dayOn_107 (by decide) ?_
                      exact ih3 (k + 1) (by omega)
              refine r_aload0 hR dX8_dayOn_53 ?_
              refine r_aload0 hR dX8_dayOn_54 ?_
              refine r_iload1 hR dX8_dayOn_55 ?_
              refine r_iload4 hR dX8_dayOn_56 ?_
              refine r_iload3 hR dX8_dayOn_58 ?_
              refine r_cv3v hR kv_X8_105 (by decide) (t_X8_wentTo (rowP_eqY (eqY_putR M 1 _ 36) h) hwf ht (by omega) how) (by first | decide | assumption | (simp only [gcnt_4, gcnt_1, gcnt_2, gcnt_3, gcnt_12, gcnt_13, gcnt_16]; omega)) rfl rfl (Nat.le_of_ble_eq_true rfl) dX8_dayOn_59 ?_
              refine r_aload0 hR dX8_dayOn_62 ?_
              refine r_get hR (by first | decide | assumption | (simp only [gcnt_4, gcnt_1, gcnt_2, gcnt_3, gcnt_12, gcnt_13, gcnt_16]; omega)) fl_X8_22 rfl rfl dX8_dayOn_63 ?_
              refine r_iload4 hR dX8_dayOn_66 ?_
              refine r_iald hR (by first | decide | assumption | (simp only [gcnt_4, gcnt_1, gcnt_2, gcnt_3, gcnt_12, gcnt_13, gcnt_16]; omega)) rfl rfl (by omega) (by decide) dX8_dayOn_68 ?_
              rw [putR_far M _ 36 (by omega), hK i (by omega)]
              refine r_cv2u hR kv_X8_130 (by decide) (t_X8_cheaper (fun j hj => putR_at M 18 1 _ hj) (fun j => Nat.le_trans ((stepP_le i) j) (by decide)) (wen_lt (by omega)) (by omega)) (by first | decide | assumption | (simp only [gcnt_4, gcnt_1, gcnt_2, gcnt_3, gcnt_12, gcnt_13, gcnt_16]; omega)) rfl rfl (Nat.le_of_ble_eq_true rfl) dX8_dayOn_69 ?_
              refine r_mem (putR_put M 18 1 _ _ (Nat.le_refl 36)) ?_
              refine r_iconst hR (nI 0) (by decide) dX8_dayOn_72 ?_
              refine r_istore5 hR (fun _ h => by first | (cases h; rfl) | exact absurd h (by simp)) dX8_dayOn_73 ?_
              exact L3 8 0 rfl
  have L1 : ∀ (j i : Nat) (x5 : Option Value), i + j = 36 → P 9 [some (.ref (ad G 15 0)), some (.int (nI t)), some (.int (nI day)), some (.int (nI own)), some (.int (nI i)), x5] [] (putR M 18 1 (fun _ => 99) i) := by
    intro j
    induction j with
    | zero =>
      intro i x5 hij 
      refine r_iload4 hR dX8_dayOn_9 ?_
      refine r_bipush hR (nI 36) (by decide) dX8_dayOn_11 ?_
      refine r_icmp_ge hR 31 dX8_dayOn_13 (by decide) (fun c13 => ?_) (fun c13 => ?_)
      · try simp (disch := omega) only [nI_ltI, nI_leI, nI_eq, bI_0, Decidable.not_not, lc_lt, lc_gt, lc_ge, lc_le, lc_eq, i64_toInt] at c13
        try simp (disch := omega) only [cv_lt, cv_le, cv_eq, nI_toInt, cv_0] at c13
        first
        | omega
        | refine r_iconst hR (nI 0) (by decide) dX8_dayOn_31 ?_
          refine r_istore4 hR (fun _ h => by first | (cases h; rfl) | exact absurd h (by simp)) dX8_dayOn_32 ?_
          obtain rfl : i = 36 := by omega
          exact L2 36 0 _ rfl
      · try simp (disch := omega) only [nI_ltI, nI_leI, nI_eq, bI_0, Decidable.not_not, lc_lt, lc_gt, lc_ge, lc_le, lc_eq, i64_toInt] at c13
        try simp (disch := omega) only [cv_lt, cv_le, cv_eq, nI_toInt, cv_0] at c13
        first
        | omega
        | refine r_aload0 hR dX8_dayOn_16 ?_
          refine r_get hR (by first | decide | assumption | (simp only [gcnt_4, gcnt_1, gcnt_2, gcnt_3, gcnt_12, gcnt_13, gcnt_16]; omega)) fl_X8_25 rfl rfl dX8_dayOn_17 ?_
          refine r_iload4 hR dX8_dayOn_20 ?_
          refine r_bipush hR (nI 99) (by decide) dX8_dayOn_22 ?_
          refine r_iast hR (by first | decide | assumption | (simp only [gcnt_4, gcnt_1, gcnt_2, gcnt_3, gcnt_12, gcnt_13, gcnt_16]; omega)) (fun _ => rfl) rfl (by omega) (by decide) dX8_dayOn_24 ?_
          refine r_iinc4 hR (nI 1) (by decide) (fun _ h => by first | (cases h; rfl) | exact absurd h (by simp)) dX8_dayOn_25 ?_
          try rw [nI_add]
          refine r_goto hR 9 dX8_dayOn_28 (by decide) ?_
          omega
    | succ j ih =>
      intro i x5 hij 
      refine r_iload4 hR dX8_dayOn_9 ?_
      refine r_bipush hR (nI 36) (by decide) dX8_dayOn_11 ?_
      refine r_icmp_ge hR 31 dX8_dayOn_13 (by decide) (fun c13 => ?_) (fun c13 => ?_)
      · try simp (disch := omega) only [nI_ltI, nI_leI, nI_eq, bI_0, Decidable.not_not, lc_lt, lc_gt, lc_ge, lc_le, lc_eq, i64_toInt] at c13
        try simp (disch := omega) only [cv_lt, cv_le, cv_eq, nI_toInt, cv_0] at c13
        first
        | omega
        | refine r_iconst hR (nI 0) (by decide) dX8_dayOn_31 ?_
          refine r_istore4 hR (fun _ h => by first | (cases h; rfl) | exact absurd h (by simp)) dX8_dayOn_32 ?_
          obtain rfl : i = 36 := by omega
          exact L2 36 0 _ rfl
      · try simp (disch := omega) only [nI_ltI, nI_leI, nI_eq, bI_0, Decidable.not_not, lc_lt, lc_gt, lc_ge, lc_le, lc_eq, i64_toInt] at c13
        try simp (disch := omega) only [cv_lt, cv_le, cv_eq, nI_toInt, cv_0] at c13
        first
        | omega
        | refine r_aload0 hR dX8_dayOn_16 ?_
          refine r_get hR (by first | decide | assumption | (simp only [gcnt_4, gcnt_1, gcnt_2, gcnt_3, gcnt_12, gcnt_13, gcnt_16]; omega)) fl_X8_25 rfl rfl dX8_dayOn_17 ?_
          refine r_iload4 hR dX8_dayOn_20 ?_
          refine r_bipush hR (nI 99) (by decide) dX8_dayOn_22 ?_
          refine r_iast hR (by first | decide | assumption | (simp only [gcnt_4, gcnt_1, gcnt_2, gcnt_3, gcnt_12, gcnt_13, gcnt_16]; omega)) (fun _ => rfl) rfl (by omega) (by decide) dX8_dayOn_24 ?_
          refine r_iinc4 hR (nI 1) (by decide) (fun _ h => by first | (cases h; rfl) | exact absurd h (by simp)) dX8_dayOn_25 ?_
          try rw [nI_add]
          refine r_goto hR 9 dX8_dayOn_28 (by decide) ?_
          rw [putR_grow M 18 1 (fun _ => 99)]
          exact ih (i + 1) _ (by omega)
  refine r_aload0 hR dX8_dayOn_0 ?_
  refine r_iload2 hR dX8_dayOn_1 ?_
  refine r_cv1v hR kv_X8_63 (by decide) (t_X8_blowing h hwf hd) (by first | decide | assumption | (simp only [gcnt_4, gcnt_1, gcnt_2, gcnt_3, gcnt_12, gcnt_13, gcnt_16]; omega)) rfl rfl (Nat.le_of_ble_eq_true rfl) dX8_dayOn_2 ?_
  rw [hown]
  refine r_istore3 hR (fun _ h => by first | (cases h; rfl) | exact absurd h (by simp)) dX8_dayOn_5 ?_
  refine r_iconst hR (nI 0) (by decide) dX8_dayOn_6 ?_
  refine r_istore4 hR (fun _ h => by first | (cases h; rfl) | exact absurd h (by simp)) dX8_dayOn_7 ?_
  refine r_mem (putR_z M 18 1 (fun _ => 99)).symm ?_
  exact L1 36 0 _ rfl

