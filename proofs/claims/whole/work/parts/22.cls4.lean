set_option maxHeartbeats 4000000 in
set_option maxRecDepth 100000 in
theorem t_J6_bitCount {G : gG} {M : gM} {x : Int32} : Cf G mJ6_bitCount_0f7a4 0 [.int x] M (some (.int (bitC x))) M := by
  refine Ct.ofJ (by decide +kernel) (k := 0) (ls0 := [some (.int x)]) rfl rfl (fun _ _ => trivial) ?_
  intro P hR
  refine r_iload0 hR dJ6_bitCount_0f7a4_0 ?_
  refine r_iload0 hR dJ6_bitCount_0f7a4_1 ?_
  refine r_iconst hR (nI 1) (by decide) dJ6_bitCount_0f7a4_2 ?_
  refine r_iushr hR dJ6_bitCount_0f7a4_3 ?_
  refine r_ldcw hR ct_J6_265 dJ6_bitCount_0f7a4_4 ?_
  refine r_iand hR dJ6_bitCount_0f7a4_7 ?_
  refine r_isub hR dJ6_bitCount_0f7a4_8 ?_
  refine r_istore0 hR dJ6_bitCount_0f7a4_9 ?_
  refine r_iload0 hR dJ6_bitCount_0f7a4_10 ?_
  refine r_ldcw hR ct_J6_266 dJ6_bitCount_0f7a4_11 ?_
  refine r_iand hR dJ6_bitCount_0f7a4_14 ?_
  refine r_iload0 hR dJ6_bitCount_0f7a4_15 ?_
  refine r_iconst hR (nI 2) (by decide) dJ6_bitCount_0f7a4_16 ?_
  refine r_iushr hR dJ6_bitCount_0f7a4_17 ?_
  refine r_ldcw hR ct_J6_266 dJ6_bitCount_0f7a4_18 ?_
  refine r_iand hR dJ6_bitCount_0f7a4_21 ?_
  refine r_iadd hR dJ6_bitCount_0f7a4_22 ?_
  try rw [nI_add]
  refine r_istore0 hR dJ6_bitCount_0f7a4_23 ?_
  refine r_iload0 hR dJ6_bitCount_0f7a4_24 ?_
  refine r_iload0 hR dJ6_bitCount_0f7a4_25 ?_
  refine r_iconst hR (nI 4) (by decide) dJ6_bitCount_0f7a4_26 ?_
  refine r_iushr hR dJ6_bitCount_0f7a4_27 ?_
  refine r_iadd hR dJ6_bitCount_0f7a4_28 ?_
  try rw [nI_add]
  refine r_ldcw hR ct_J6_267 dJ6_bitCount_0f7a4_29 ?_
  refine r_iand hR dJ6_bitCount_0f7a4_32 ?_
  refine r_istore0 hR dJ6_bitCount_0f7a4_33 ?_
  refine r_iload0 hR dJ6_bitCount_0f7a4_34 ?_
  refine r_iload0 hR dJ6_bitCount_0f7a4_35 ?_
  refine r_bipush hR (nI 8) (by decide) dJ6_bitCount_0f7a4_36 ?_
  refine r_iushr hR dJ6_bitCount_0f7a4_38 ?_
  refine r_iadd hR dJ6_bitCount_0f7a4_39 ?_
  try rw [nI_add]
  refine r_istore0 hR dJ6_bitCount_0f7a4_40 ?_
  refine r_iload0 hR dJ6_bitCount_0f7a4_41 ?_
  refine r_iload0 hR dJ6_bitCount_0f7a4_42 ?_
  refine r_bipush hR (nI 16) (by decide) dJ6_bitCount_0f7a4_43 ?_
  refine r_iushr hR dJ6_bitCount_0f7a4_45 ?_
  refine r_iadd hR dJ6_bitCount_0f7a4_46 ?_
  try rw [nI_add]
  refine r_istore0 hR dJ6_bitCount_0f7a4_47 ?_
  refine r_iload0 hR dJ6_bitCount_0f7a4_48 ?_
  refine r_bipush hR (nI 63) (by decide) dJ6_bitCount_0f7a4_49 ?_
  refine r_iand hR dJ6_bitCount_0f7a4_51 ?_
  refine r_iret hR dJ6_bitCount_0f7a4_52 ?_
  exact ⟨rfl, rfl⟩

set_option maxHeartbeats 4000000 in
set_option maxRecDepth 100000 in
theorem t_X7_wipe {G : gG} {M : gM} {A : gA} (hc : clsP M A) (hw : wfA A) : Ct G mX7_wipe 0 [.ref (ad G 0 0)] M (Qc M (oWipe A)) := by
  obtain ⟨hwf, hday, hwk, hk2, hl, hT, hsh⟩ := id hw
  obtain ⟨w0, w1, w2, w3, wr, wt⟩ := id hwf
  obtain ⟨s0, s2, s3, s4, sr, sth⟩ := id hc.1
  have hK8 : ak A = 1 → aK A 3 ≤ 8 := fun z => (hwk z).1.2.2.2.1
  refine Ct.of (by decide +kernel) (k := 1) (ls0 := [some (.ref (ad G 0 0)), none]) rfl rfl (fun _ _ => trivial) ?_
  intro P hR
  have hc3 := hc.2.2.1
  have hc4 := hc.2.2.2.1
  have hc5 := hc.2.2.2.2.1
  have hc6 := hc.2.2.2.2.2.1
  have hc7 := hc.2.2.2.2.2.2
  refine r_aload0 hR dX7_wipe_0 ?_
  refine r_get hR (by first | decide | assumption | (simp only [gcnt_4, gcnt_1, gcnt_2, gcnt_3, gcnt_12, gcnt_13, gcnt_16]; omega)) fl_X7_53 rfl rfl dX7_wipe_1 ?_
  try simp only [s0, s2, s3, s4, hc4, hc3]
  refine r_get hR (by first | decide | assumption | (simp only [gcnt_4, gcnt_1, gcnt_2, gcnt_3, gcnt_12, gcnt_13, gcnt_16]; omega)) fl_X7_220 rfl rfl dX7_wipe_4 ?_
  try simp only [s0, s2, s3, s4, hc4, hc3]
  refine r_istore1 hR (fun _ h => by first | (cases h; rfl) | exact absurd h (by simp)) dX7_wipe_7 ?_
  refine r_aload0 hR dX7_wipe_8 ?_
  refine r_get hR (by first | decide | assumption | (simp only [gcnt_4, gcnt_1, gcnt_2, gcnt_3, gcnt_12, gcnt_13, gcnt_16]; omega)) fl_X7_53 rfl rfl dX7_wipe_9 ?_
  try simp only [s0, s2, s3, s4, hc4, hc3]
  refine r_iconst hR (nI 0) (by decide) dX7_wipe_12 ?_
  refine r_puti hR (by first | decide | assumption | (simp only [gcnt_4, gcnt_1, gcnt_2, gcnt_3, gcnt_12, gcnt_13, gcnt_16]; omega)) fp_X7_220 rfl rfl (Nat.le_of_ble_eq_true rfl) rfl rfl dX7_wipe_13 ?_
  refine r_iload1 hR dX7_wipe_16 ?_
  refine r_iret hR dX7_wipe_17 ?_
  exact ⟨rfl, clsP_tape hc (fun r a b => seti_row M a) rfl (by simp [seti_r]) (fun j hj => absurd hj (by omega)), keepM_seti M _ _ _ (by decide)⟩

set_option maxHeartbeats 4000000 in
set_option maxRecDepth 100000 in
theorem t_X7_image {G : gG} {M : gM} {A : gA} (hc : clsP M A) (hw : wfA A) : Ct G mX7_image 3 [.ref (ad G 0 0)] M (Qc M (oImage A)) := by
  obtain ⟨hwf, hday, hwk, hk2, hl, hT, hsh⟩ := id hw
  obtain ⟨w0, w1, w2, w3, wr, wt⟩ := id hwf
  obtain ⟨s0, s2, s3, s4, sr, sth⟩ := id hc.1
  have hK8 : ak A = 1 → aK A 3 ≤ 8 := fun z => (hwk z).1.2.2.2.1
  refine Ct.of (by decide +kernel) (k := 0) (ls0 := [some (.ref (ad G 0 0))]) rfl rfl (fun _ _ => trivial) ?_
  intro P hR
  have hc3 := hc.2.2.1
  have hc4 := hc.2.2.2.1
  have hc5 := hc.2.2.2.2.1
  have hc6 := hc.2.2.2.2.2.1
  have hc7 := hc.2.2.2.2.2.2
  refine r_aload0 hR dX7_image_0 ?_
  refine r_get hR (by first | decide | assumption | (simp only [gcnt_4, gcnt_1, gcnt_2, gcnt_3, gcnt_12, gcnt_13, gcnt_16]; omega)) fl_X7_19 rfl rfl dX7_image_1 ?_
  try simp only [s0, s2, s3, s4, hc4, hc3]
  refine r_aload0 hR dX7_image_4 ?_
  refine r_get hR (by first | decide | assumption | (simp only [gcnt_4, gcnt_1, gcnt_2, gcnt_3, gcnt_12, gcnt_13, gcnt_16]; omega)) fl_X7_10 rfl rfl dX7_image_5 ?_
  try simp only [s0, s2, s3, s4, hc4, hc3]
  refine r_cv1u hR kv_X7_207 (by decide) (t_X1_become (by decide) (by decide) (by decide) hc.1 w3) (by first | decide | assumption | (simp only [gcnt_4, gcnt_1, gcnt_2, gcnt_3, gcnt_12, gcnt_13, gcnt_16]; omega)) rfl rfl (Nat.le_of_ble_eq_true rfl) dX7_image_8 ?_
  refine r_aload0 hR dX7_image_11 ?_
  refine r_iconst hR (nI 1) (by decide) dX7_image_12 ?_
  refine r_puti hR (by first | decide | assumption | (simp only [gcnt_4, gcnt_1, gcnt_2, gcnt_3, gcnt_12, gcnt_13, gcnt_16]; omega)) fp_X7_22 rfl rfl (Nat.le_of_ble_eq_true rfl) rfl rfl dX7_image_13 ?_
  refine r_iconst hR (nI 1) (by decide) dX7_image_16 ?_
  refine r_iret hR dX7_image_17 ?_
  exact ⟨rfl, clsP_kept hc w3 w3, (keepM_put M _ _ _).tr (keepM_seti _ _ _ _ (by decide))⟩

set_option maxHeartbeats 4000000 in
set_option maxRecDepth 100000 in
theorem t_X7_undo {G : gG} {M : gM} {A : gA} (hc : clsP M A) (hw : wfA A) : Ct G mX7_undo 3 [.ref (ad G 0 0)] M (Qc M (oUndo A)) := by
  obtain ⟨hwf, hday, hwk, hk2, hl, hT, hsh⟩ := id hw
  obtain ⟨w0, w1, w2, w3, wr, wt⟩ := id hwf
  obtain ⟨s0, s2, s3, s4, sr, sth⟩ := id hc.1
  have hK8 : ak A = 1 → aK A 3 ≤ 8 := fun z => (hwk z).1.2.2.2.1
  refine Ct.of (by decide +kernel) (k := 0) (ls0 := [some (.ref (ad G 0 0))]) rfl rfl (fun _ _ => trivial) ?_
  intro P hR
  have hc3 := hc.2.2.1
  have hc4 := hc.2.2.2.1
  have hc5 := hc.2.2.2.2.1
  have hc6 := hc.2.2.2.2.2.1
  have hc7 := hc.2.2.2.2.2.2
  refine r_aload0 hR dX7_undo_0 ?_
  refine r_get hR (by first | decide | assumption | (simp only [gcnt_4, gcnt_1, gcnt_2, gcnt_3, gcnt_12, gcnt_13, gcnt_16]; omega)) fl_X7_22 rfl rfl dX7_undo_1 ?_
  try simp only [s0, s2, s3, s4, hc4, hc3]
  refine r_if_ne hR 14 dX7_undo_4 (by decide) (fun c4 => ?_) (fun c4 => ?_)
  · try simp (disch := omega) only [nI_ltI, nI_leI, nI_eq, bI_0, Decidable.not_not, lc_lt, lc_gt, lc_ge, lc_le, lc_eq, i64_toInt] at c4
    try simp (disch := omega) only [cv_lt, cv_le, cv_eq, nI_toInt, cv_0] at c4
    first
    | omega
    | refine r_aload0 hR dX7_undo_14 ?_
      refine r_get hR (by first | decide | assumption | (simp only [gcnt_4, gcnt_1, gcnt_2, gcnt_3, gcnt_12, gcnt_13, gcnt_16]; omega)) fl_X7_10 rfl rfl dX7_undo_15 ?_
      try simp only [s0, s2, s3, s4, hc4, hc3]
      refine r_aload0 hR dX7_undo_18 ?_
      refine r_get hR (by first | decide | assumption | (simp only [gcnt_4, gcnt_1, gcnt_2, gcnt_3, gcnt_12, gcnt_13, gcnt_16]; omega)) fl_X7_19 rfl rfl dX7_undo_19 ?_
      try simp only [s0, s2, s3, s4, hc4, hc3]
      refine r_cv1u hR kv_X7_207 (by decide) (t_X1_become (by decide) (by decide) (by decide) (hc.2.1 (by omega)) (hK8 (by omega))) (by first | decide | assumption | (simp only [gcnt_4, gcnt_1, gcnt_2, gcnt_3, gcnt_12, gcnt_13, gcnt_16]; omega)) rfl rfl (Nat.le_of_ble_eq_true rfl) dX7_undo_22 ?_
      refine r_aload0 hR dX7_undo_25 ?_
      refine r_get hR (by first | decide | assumption | (simp only [gcnt_4, gcnt_1, gcnt_2, gcnt_3, gcnt_12, gcnt_13, gcnt_16]; omega)) fl_X7_10 rfl rfl dX7_undo_26 ?_
      try simp only [s0, s2, s3, s4, hc4, hc3]
      refine r_get hR (by first | decide | assumption | (simp only [gcnt_4, gcnt_1, gcnt_2, gcnt_3, gcnt_12, gcnt_13, gcnt_16]; omega)) fl_X7_118 rfl rfl dX7_undo_29 ?_
      try simp only [s0, s2, s3, s4, hc4, hc3]
      rw [putSn_c]
      refine r_iret hR dX7_undo_32 ?_
      unfold oUndo
      rw [if_pos (by omega)]
      exact ⟨rfl, clsP_sea hc (hK8 (by omega)) hK8, keepM_put M _ _ _⟩
  · try simp (disch := omega) only [nI_ltI, nI_leI, nI_eq, bI_0, Decidable.not_not, lc_lt, lc_gt, lc_ge, lc_le, lc_eq, i64_toInt] at c4
    try simp (disch := omega) only [cv_lt, cv_le, cv_eq, nI_toInt, cv_0] at c4
    first
    | omega
    | refine r_aload0 hR dX7_undo_7 ?_
      refine r_ldc hR ct_X7_108 dX7_undo_8 ?_
      refine r_cv1v hR kv_X7_82 (by decide) (t_X7_findingC (n := 3) (by decide) (by decide)) (by first | decide | assumption | (simp only [gcnt_4, gcnt_1, gcnt_2, gcnt_3, gcnt_12, gcnt_13, gcnt_16]; omega)) rfl rfl (Nat.le_of_ble_eq_true rfl) dX7_undo_10 ?_
      refine r_iret hR dX7_undo_13 ?_
      exact Qc_fnd hc (by decide) (by unfold oUndo; rw [if_neg (by omega)])

set_option maxHeartbeats 4000000 in
set_option maxRecDepth 100000 in
theorem t_X7_tear {G : gG} {M : gM} {A : gA} (hc : clsP M A) (hw : wfA A) : Ct G mX7_tear 0 [.ref (ad G 0 0)] M (Qc M (oTear A)) := by
  obtain ⟨hwf, hday, hwk, hk2, hl, hT, hsh⟩ := id hw
  obtain ⟨w0, w1, w2, w3, wr, wt⟩ := id hwf
  obtain ⟨s0, s2, s3, s4, sr, sth⟩ := id hc.1
  have hK8 : ak A = 1 → aK A 3 ≤ 8 := fun z => (hwk z).1.2.2.2.1
  refine Ct.of (by decide +kernel) (k := 1) (ls0 := [some (.ref (ad G 0 0)), none]) rfl rfl (fun _ _ => trivial) ?_
  intro P hR
  have hc3 := hc.2.2.1
  have hc4 := hc.2.2.2.1
  have hc5 := hc.2.2.2.2.1
  have hc6 := hc.2.2.2.2.2.1
  have hc7 := hc.2.2.2.2.2.2
  have J12 : P 12 [some (.ref (ad G 0 0)), none] [.int (nI (ak A))] M := by
    refine r_istore1 hR (fun _ h => by first | (cases h; rfl) | exact absurd h (by simp)) dX7_tear_12 ?_
    refine r_aload0 hR dX7_tear_13 ?_
    refine r_iconst hR (nI 0) (by decide) dX7_tear_14 ?_
    refine r_puti hR (by first | decide | assumption | (simp only [gcnt_4, gcnt_1, gcnt_2, gcnt_3, gcnt_12, gcnt_13, gcnt_16]; omega)) fp_X7_22 rfl rfl (Nat.le_of_ble_eq_true rfl) rfl rfl dX7_tear_15 ?_
    refine r_iload1 hR dX7_tear_18 ?_
    refine r_iret hR dX7_tear_19 ?_
    exact ⟨rfl, clsP_tear hc, keepM_seti M _ _ _ (by decide)⟩
  refine r_aload0 hR dX7_tear_0 ?_
  refine r_get hR (by first | decide | assumption | (simp only [gcnt_4, gcnt_1, gcnt_2, gcnt_3, gcnt_12, gcnt_13, gcnt_16]; omega)) fl_X7_22 rfl rfl dX7_tear_1 ?_
  try simp only [s0, s2, s3, s4, hc4, hc3]
  refine r_if_eq hR 11 dX7_tear_4 (by decide) (fun c4 => ?_) (fun c4 => ?_)
  · try simp (disch := omega) only [nI_ltI, nI_leI, nI_eq, bI_0, Decidable.not_not, lc_lt, lc_gt, lc_ge, lc_le, lc_eq, i64_toInt] at c4
    try simp (disch := omega) only [cv_lt, cv_le, cv_eq, nI_toInt, cv_0] at c4
    first
    | omega
    | refine r_iconst hR (nI 0) (by decide) dX7_tear_11 ?_
      refine r_nm (nI (ak A)) (by rcases (show ak A = 0 ∨ ak A = 1 by omega) with q | q <;> rw [q] <;> first | rfl | omega) ?_
      exact J12
  · try simp (disch := omega) only [nI_ltI, nI_leI, nI_eq, bI_0, Decidable.not_not, lc_lt, lc_gt, lc_ge, lc_le, lc_eq, i64_toInt] at c4
    try simp (disch := omega) only [cv_lt, cv_le, cv_eq, nI_toInt, cv_0] at c4
    first
    | omega
    | refine r_iconst hR (nI 1) (by decide) dX7_tear_7 ?_
      refine r_goto hR 12 dX7_tear_8 (by decide) ?_
      refine r_nm (nI (ak A)) (by rcases (show ak A = 0 ∨ ak A = 1 by omega) with q | q <;> rw [q] <;> first | rfl | omega) ?_
      exact J12

set_option maxHeartbeats 4000000 in
set_option maxRecDepth 100000 in
theorem t_X7_count {G : gG} {M : gM} {A : gA} {x : Int32} (hc : clsP M A) (hw : wfA A) : Ct G mX7_count 2 [.ref (ad G 0 0), .int x] M (Qc M (oCount A x)) := by
  obtain ⟨hwf, hday, hwk, hk2, hl, hT, hsh⟩ := id hw
  obtain ⟨w0, w1, w2, w3, wr, wt⟩ := id hwf
  obtain ⟨s0, s2, s3, s4, sr, sth⟩ := id hc.1
  have hK8 : ak A = 1 → aK A 3 ≤ 8 := fun z => (hwk z).1.2.2.2.1
  refine Ct.of (by decide +kernel) (k := 0) (ls0 := [some (.ref (ad G 0 0)), some (.int x)]) rfl rfl (fun _ _ => trivial) ?_
  intro P hR
  have hc3 := hc.2.2.1
  have hc4 := hc.2.2.2.1
  have hc5 := hc.2.2.2.2.1
  have hc6 := hc.2.2.2.2.2.1
  have hc7 := hc.2.2.2.2.2.2
  by_cases hv : 0 ≤ x.toInt ∧ x.toInt ≤ 3
  · skip
    obtain ⟨n, hn, rfl⟩ := of_in (x := x) (N := 3) (by omega)
    have e : oCount A (nI n) = (nI (if n = 0 then aS A 3 else if n = 1 then al A else if n = 2 then cntB (aS A 2) 8 else calP (aS A) 7), A) := by
      unfold oCount
      rw [if_pos (by simp (disch := omega) only [okI, nI_toInt]; omega)]
      simp (disch := omega) only [uN_nI]
    refine r_iload1 hR dX7_count_0 ?_
    by_cases e0 : n = 0
    · refine r_swInN hR 0 e0 (by decide) 32 dX7_count_1 (by decide) (by decide) rfl (by decide) ?_
      refine r_aload0 hR dX7_count_32 ?_
      refine r_get hR (by first | decide | assumption | (simp only [gcnt_4, gcnt_1, gcnt_2, gcnt_3, gcnt_12, gcnt_13, gcnt_16]; omega)) fl_X7_10 rfl rfl dX7_count_33 ?_
      try simp only [s0, s2, s3, s4, hc4, hc3]
      refine r_get hR (by first | decide | assumption | (simp only [gcnt_4, gcnt_1, gcnt_2, gcnt_3, gcnt_12, gcnt_13, gcnt_16]; omega)) fl_X7_118 rfl rfl dX7_count_36 ?_
      try simp only [s0, s2, s3, s4, hc4, hc3]
      refine r_iret hR dX7_count_39 ?_
      unfold Qc
      rw [e]
      refine ⟨congrArg (fun z => some (Value.int (nI z))) ?_, hc, keepM.rf M⟩
      (repeat' split) <;> first | rfl | omega
    · skip
      by_cases e1 : n = 1
      · refine r_swInN hR 1 e1 (by decide) 40 dX7_count_1 (by decide) (by decide) rfl (by decide) ?_
        refine r_aload0 hR dX7_count_40 ?_
        refine r_get hR (by first | decide | assumption | (simp only [gcnt_4, gcnt_1, gcnt_2, gcnt_3, gcnt_12, gcnt_13, gcnt_16]; omega)) fl_X7_53 rfl rfl dX7_count_41 ?_
        try simp only [s0, s2, s3, s4, hc4, hc3]
        refine r_get hR (by first | decide | assumption | (simp only [gcnt_4, gcnt_1, gcnt_2, gcnt_3, gcnt_12, gcnt_13, gcnt_16]; omega)) fl_X7_220 rfl rfl dX7_count_44 ?_
        try simp only [s0, s2, s3, s4, hc4, hc3]
        refine r_iret hR dX7_count_47 ?_
        unfold Qc
        rw [e]
        refine ⟨congrArg (fun z => some (Value.int (nI z))) ?_, hc, keepM.rf M⟩
        (repeat' split) <;> first | rfl | omega
      · skip
        by_cases e2 : n = 2
        · refine r_swInN hR 2 e2 (by decide) 48 dX7_count_1 (by decide) (by decide) rfl (by decide) ?_
          refine r_aload0 hR dX7_count_48 ?_
          refine r_get hR (by first | decide | assumption | (simp only [gcnt_4, gcnt_1, gcnt_2, gcnt_3, gcnt_12, gcnt_13, gcnt_16]; omega)) fl_X7_10 rfl rfl dX7_count_49 ?_
          try simp only [s0, s2, s3, s4, hc4, hc3]
          refine r_get hR (by first | decide | assumption | (simp only [gcnt_4, gcnt_1, gcnt_2, gcnt_3, gcnt_12, gcnt_13, gcnt_16]; omega)) fl_X7_172 rfl rfl dX7_count_52 ?_
          try simp only [s0, s2, s3, s4, hc4, hc3]
          refine r_cs1v hR ks_X7_268 (by decide) (t_J6_bitCount) (Nat.le_of_ble_eq_true rfl) dX7_count_55 ?_
          rw [(bitC_t (aS A 2) w2).1]
          refine r_iret hR dX7_count_58 ?_
          unfold Qc
          rw [e]
          refine ⟨congrArg (fun z => some (Value.int (nI z))) ?_, hc, keepM.rf M⟩
          (repeat' split) <;> first | rfl | omega
        · skip
          by_cases e3 : n = 3
          · refine r_swInN hR 3 e3 (by decide) 59 dX7_count_1 (by decide) (by decide) rfl (by decide) ?_
            refine r_aload0 hR dX7_count_59 ?_
            refine r_get hR (by first | decide | assumption | (simp only [gcnt_4, gcnt_1, gcnt_2, gcnt_3, gcnt_12, gcnt_13, gcnt_16]; omega)) fl_X7_10 rfl rfl dX7_count_60 ?_
            try simp only [s0, s2, s3, s4, hc4, hc3]
            refine r_cv0v hR kv_X7_273 (by decide) (t_X1_calms (by decide) hc.1 hwf) (by first | decide | assumption | (simp only [gcnt_4, gcnt_1, gcnt_2, gcnt_3, gcnt_12, gcnt_13, gcnt_16]; omega)) rfl rfl (Nat.le_of_ble_eq_true rfl) dX7_count_63 ?_
            refine r_iret hR dX7_count_66 ?_
            unfold Qc
            rw [e]
            refine ⟨congrArg (fun z => some (Value.int (nI z))) ?_, hc, keepM.rf M⟩
            (repeat' split) <;> first | rfl | omega
          · skip
            refine r_swOutN hR (k := n) (by omega) 67 dX7_count_1 (by omega) (by decide) ?_
            refine r_aload0 hR dX7_count_67 ?_
            refine r_ldc hR ct_X7_81 dX7_count_68 ?_
            refine r_cv1v hR kv_X7_82 (by decide) (t_X7_findingC (n := 0) (by decide) (by decide)) (by first | decide | assumption | (simp only [gcnt_4, gcnt_1, gcnt_2, gcnt_3, gcnt_12, gcnt_13, gcnt_16]; omega)) rfl rfl (Nat.le_of_ble_eq_true rfl) dX7_count_70 ?_
            refine r_iret hR dX7_count_73 ?_
            omega
  · skip
    refine r_iload1 hR dX7_count_0 ?_
    refine r_swOut hR 67 dX7_count_1 (by omega) (by decide) ?_
    refine r_aload0 hR dX7_count_67 ?_
    refine r_ldc hR ct_X7_81 dX7_count_68 ?_
    refine r_cv1v hR kv_X7_82 (by decide) (t_X7_findingC (n := 0) (by decide) (by decide)) (by first | decide | assumption | (simp only [gcnt_4, gcnt_1, gcnt_2, gcnt_3, gcnt_12, gcnt_13, gcnt_16]; omega)) rfl rfl (Nat.le_of_ble_eq_true rfl) dX7_count_70 ?_
    refine r_iret hR dX7_count_73 ?_
    refine Qc_fnd hc (by decide) ?_
    unfold oCount
    dsimp only [okI, okT]
    (repeat' split) <;> first | rfl | omega

set_option maxHeartbeats 4000000 in
set_option maxRecDepth 100000 in
theorem t_X7_status {G : gG} {M : gM} {A : gA} {x : Int32} (hc : clsP M A) (hw : wfA A) : Ct G mX7_status 2 [.ref (ad G 0 0), .int x] M (Qc M (oStatus A x)) := by
  obtain ⟨hwf, hday, hwk, hk2, hl, hT, hsh⟩ := id hw
  obtain ⟨w0, w1, w2, w3, wr, wt⟩ := id hwf
  obtain ⟨s0, s2, s3, s4, sr, sth⟩ := id hc.1
  have hK8 : ak A = 1 → aK A 3 ≤ 8 := fun z => (hwk z).1.2.2.2.1
  refine Ct.of (by decide +kernel) (k := 2) (ls0 := [some (.ref (ad G 0 0)), some (.int x), none, none]) rfl rfl (fun _ _ => trivial) ?_
  intro P hR
  have hc3 := hc.2.2.1
  have hc4 := hc.2.2.2.1
  have hc5 := hc.2.2.2.2.1
  have hc6 := hc.2.2.2.2.2.1
  have hc7 := hc.2.2.2.2.2.2
  refine r_iload1 hR dX7_status_0 ?_
  refine r_iconst hR (-1) (by decide) dX7_status_1 ?_
  refine r_icmp_lt hR 11 dX7_status_2 (by decide) (fun c2 => ?_) (fun c2 => ?_)
  · try simp (disch := omega) only [nI_ltI, nI_leI, nI_eq, bI_0, Decidable.not_not, lc_lt, lc_gt, lc_ge, lc_le, lc_eq, i64_toInt] at c2
    try simp (disch := omega) only [cv_lt, cv_le, cv_eq, nI_toInt, cv_0] at c2
    first
    | omega
    | refine r_aload0 hR dX7_status_11 ?_
      refine r_ldc hR ct_X7_81 dX7_status_12 ?_
      refine r_cv1v hR kv_X7_82 (by decide) (t_X7_findingC (n := 0) (by decide) (by decide)) (by first | decide | assumption | (simp only [gcnt_4, gcnt_1, gcnt_2, gcnt_3, gcnt_12, gcnt_13, gcnt_16]; omega)) rfl rfl (Nat.le_of_ble_eq_true rfl) dX7_status_14 ?_
      refine r_iret hR dX7_status_17 ?_
      refine Qc_fnd hc (by decide) ?_
      unfold oStatus
      refine if_neg ?_
      dsimp only [okI]
      rw [show (-1 : Int32).toInt = -1 from by decide] at c2
      omega
  · try simp (disch := omega) only [nI_ltI, nI_leI, nI_eq, bI_0, Decidable.not_not, lc_lt, lc_gt, lc_ge, lc_le, lc_eq, i64_toInt] at c2
    try simp (disch := omega) only [cv_lt, cv_le, cv_eq, nI_toInt, cv_0] at c2
    first
    | omega
    | refine r_iload1 hR dX7_status_5 ?_
      refine r_bipush hR (nI 7) (by decide) dX7_status_6 ?_
      refine r_icmp_lt hR 18 dX7_status_8 (by decide) (fun c8 => ?_) (fun c8 => ?_)
      · try simp (disch := omega) only [nI_ltI, nI_leI, nI_eq, bI_0, Decidable.not_not, lc_lt, lc_gt, lc_ge, lc_le, lc_eq, i64_toInt] at c8
        try simp (disch := omega) only [cv_lt, cv_le, cv_eq, nI_toInt, cv_0] at c8
        first
        | omega
        | have hm1 : -1 ≤ x.toInt := by rw [show (-1 : Int32).toInt = -1 from by decide] at c2; omega
          refine r_iload1 hR dX7_status_18 ?_
          refine r_if_lt hR 29 dX7_status_19 (by decide) (fun c19 => ?_) (fun c19 => ?_)
          · try simp (disch := omega) only [nI_ltI, nI_leI, nI_eq, bI_0, Decidable.not_not, lc_lt, lc_gt, lc_ge, lc_le, lc_eq, i64_toInt] at c19
            try simp (disch := omega) only [cv_lt, cv_le, cv_eq, nI_toInt, cv_0] at c19
            first
            | omega
            | have L : ∀ (j i : Nat), i + j = 7 → P 33 [some (.ref (ad G 0 0)), some (.int x), some (.int (fsum (aF A) i)), some (.int (nI i))] [] M := by
                intro j
                induction j with
                | zero =>
                  intro i  hij 
                  refine r_iload3 hR dX7_status_33 ?_
                  refine r_bipush hR (nI 7) (by decide) dX7_status_34 ?_
                  refine r_icmp_ge hR 54 dX7_status_36 (by decide) (fun c36 => ?_) (fun c36 => ?_)
                  · try simp (disch := omega) only [nI_ltI, nI_leI, nI_eq, bI_0, Decidable.not_not, lc_lt, lc_gt, lc_ge, lc_le, lc_eq, i64_toInt] at c36
                    try simp (disch := omega) only [cv_lt, cv_le, cv_eq, nI_toInt, cv_0] at c36
                    first
                    | omega
                    | refine r_iload2 hR dX7_status_54 ?_
                      refine r_iret hR dX7_status_55 ?_
                      obtain rfl : i = 7 := by omega
                      unfold oStatus
                      rw [if_pos (by dsimp only [okI]; omega), if_pos (by omega)]
                      exact ⟨rfl, hc, keepM.rf M⟩
                  · try simp (disch := omega) only [nI_ltI, nI_leI, nI_eq, bI_0, Decidable.not_not, lc_lt, lc_gt, lc_ge, lc_le, lc_eq, i64_toInt] at c36
                    try simp (disch := omega) only [cv_lt, cv_le, cv_eq, nI_toInt, cv_0] at c36
                    first
                    | omega
                    | refine r_iload2 hR dX7_status_39 ?_
                      refine r_aload0 hR dX7_status_40 ?_
                      refine r_get hR (by first | decide | assumption | (simp only [gcnt_4, gcnt_1, gcnt_2, gcnt_3, gcnt_12, gcnt_13, gcnt_16]; omega)) fl_X7_73 rfl rfl dX7_status_41 ?_
                      refine r_iload3 hR dX7_status_44 ?_
                      refine r_iald hR (by first | decide | assumption | (simp only [gcnt_4, gcnt_1, gcnt_2, gcnt_3, gcnt_12, gcnt_13, gcnt_16]; omega)) rfl rfl (by omega) (by decide) dX7_status_45 ?_
                      rw [hc7 i (by omega)]
                      refine r_iadd hR dX7_status_46 ?_
                      try rw [nI_add]
                      refine r_istore2 hR (fun _ h => by first | (cases h; rfl) | exact absurd h (by simp)) dX7_status_47 ?_
                      refine r_iinc3 hR (nI 1) (by decide) (fun _ h => by first | (cases h; rfl) | exact absurd h (by simp)) dX7_status_48 ?_
                      try rw [nI_add]
                      refine r_goto hR 33 dX7_status_51 (by decide) ?_
                      omega
                | succ j ih =>
                  intro i  hij 
                  refine r_iload3 hR dX7_status_33 ?_
                  refine r_bipush hR (nI 7) (by decide) dX7_status_34 ?_
                  refine r_icmp_ge hR 54 dX7_status_36 (by decide) (fun c36 => ?_) (fun c36 => ?_)
                  · try simp (disch := omega) only [nI_ltI, nI_leI, nI_eq, bI_0, Decidable.not_not, lc_lt, lc_gt, lc_ge, lc_le, lc_eq, i64_toInt] at c36
                    try simp (disch := omega) only [cv_lt, cv_le, cv_eq, nI_toInt, cv_0] at c36
                    first
                    | omega
                    | refine r_iload2 hR dX7_status_54 ?_
                      refine r_iret hR dX7_status_55 ?_
                      obtain rfl : i = 7 := by omega
                      unfold oStatus
                      rw [if_pos (by dsimp only [okI]; omega), if_pos (by omega)]
                      exact ⟨rfl, hc, keepM.rf M⟩
                  · try simp (disch := omega) only [nI_ltI, nI_leI, nI_eq, bI_0, Decidable.not_not, lc_lt, lc_gt, lc_ge, lc_le, lc_eq, i64_toInt] at c36
                    try simp (disch := omega) only [cv_lt, cv_le, cv_eq, nI_toInt, cv_0] at c36
                    first
                    | omega
                    | refine r_iload2 hR dX7_status_39 ?_
                      refine r_aload0 hR dX7_status_40 ?_
                      refine r_get hR (by first | decide | assumption | (simp only [gcnt_4, gcnt_1, gcnt_2, gcnt_3, gcnt_12, gcnt_13, gcnt_16]; omega)) fl_X7_73 rfl rfl dX7_status_41 ?_
                      refine r_iload3 hR dX7_status_44 ?_
                      refine r_iald hR (by first | decide | assumption | (simp only [gcnt_4, gcnt_1, gcnt_2, gcnt_3, gcnt_12, gcnt_13, gcnt_16]; omega)) rfl rfl (by omega) (by decide) dX7_status_45 ?_
                      rw [hc7 i (by omega)]
                      refine r_iadd hR dX7_status_46 ?_
                      try rw [nI_add]
                      refine r_istore2 hR (fun _ h => by first | (cases h; rfl) | exact absurd h (by simp)) dX7_status_47 ?_
                      refine r_iinc3 hR (nI 1) (by decide) (fun _ h => by first | (cases h; rfl) | exact absurd h (by simp)) dX7_status_48 ?_
                      try rw [nI_add]
                      refine r_goto hR 33 dX7_status_51 (by decide) ?_
                      exact ih (i + 1) (by omega)
              refine r_iconst hR (nI 0) (by decide) dX7_status_29 ?_
              refine r_istore2 hR (fun _ h => by first | (cases h; rfl) | exact absurd h (by simp)) dX7_status_30 ?_
              refine r_iconst hR (nI 0) (by decide) dX7_status_31 ?_
              refine r_istore3 hR (fun _ h => by first | (cases h; rfl) | exact absurd h (by simp)) dX7_status_32 ?_
              exact L 7 0 rfl
          · try simp (disch := omega) only [nI_ltI, nI_leI, nI_eq, bI_0, Decidable.not_not, lc_lt, lc_gt, lc_ge, lc_le, lc_eq, i64_toInt] at c19
            try simp (disch := omega) only [cv_lt, cv_le, cv_eq, nI_toInt, cv_0] at c19
            first
            | omega
            | obtain ⟨n, hn, rfl⟩ := of_in (x := x) (N := 6) (by omega)
              simp (disch := omega) only [nI_toInt] at c19
              refine r_aload0 hR dX7_status_22 ?_
              refine r_get hR (by first | decide | assumption | (simp only [gcnt_4, gcnt_1, gcnt_2, gcnt_3, gcnt_12, gcnt_13, gcnt_16]; omega)) fl_X7_73 rfl rfl dX7_status_23 ?_
              refine r_iload1 hR dX7_status_26 ?_
              refine r_iald hR (by first | decide | assumption | (simp only [gcnt_4, gcnt_1, gcnt_2, gcnt_3, gcnt_12, gcnt_13, gcnt_16]; omega)) rfl rfl (by omega) (by decide) dX7_status_27 ?_
              rw [hc7 n (by omega)]
              refine r_iret hR dX7_status_28 ?_
              unfold oStatus
              rw [if_pos (by simp (disch := omega) only [okI, nI_toInt]; omega), if_neg (by simp (disch := omega) only [nI_toInt]; omega), uN_nI (by omega)]
              exact ⟨rfl, hc, keepM.rf M⟩
      · try simp (disch := omega) only [nI_ltI, nI_leI, nI_eq, bI_0, Decidable.not_not, lc_lt, lc_gt, lc_ge, lc_le, lc_eq, i64_toInt] at c8
        try simp (disch := omega) only [cv_lt, cv_le, cv_eq, nI_toInt, cv_0] at c8
        first
        | omega
        | refine r_aload0 hR dX7_status_11 ?_
          refine r_ldc hR ct_X7_81 dX7_status_12 ?_
          refine r_cv1v hR kv_X7_82 (by decide) (t_X7_findingC (n := 0) (by decide) (by decide)) (by first | decide | assumption | (simp only [gcnt_4, gcnt_1, gcnt_2, gcnt_3, gcnt_12, gcnt_13, gcnt_16]; omega)) rfl rfl (Nat.le_of_ble_eq_true rfl) dX7_status_14 ?_
          refine r_iret hR dX7_status_17 ?_
          refine Qc_fnd hc (by decide) ?_
          unfold oStatus
          refine if_neg ?_
          dsimp only [okI]
          rw [show (-1 : Int32).toInt = -1 from by decide] at c2
          omega

