def ntF (A : gA) (x : Int32) : Int32 := if okI x 0 3 then (if ab A (uN x) = 0 then -1000000006 else nI 0) else -1000000001
set_option maxHeartbeats 4000000 in
set_option maxRecDepth 100000 in
theorem t_X8_isSheet {G : gG} {M : gM} {x : Int32} : Cf G mX8_isSheet 1 [.int x] M (some (.int (bI (0 ≤ x.toInt ∧ x.toInt ≤ 3)))) M := by
  refine Ct.of (by decide +kernel) (k := 0) (ls0 := [some (.int x)]) rfl rfl (fun _ _ => trivial) ?_
  intro P hR
  refine r_iload0 hR dX8_isSheet_0 ?_
  refine r_i2l hR dX8_isSheet_1 ?_
  refine r_iconst hR (nI 0) (by decide) dX8_isSheet_2 ?_
  refine r_iconst hR (nI 3) (by decide) dX8_isSheet_3 ?_
  refine r_cs3v hR ks_X8_47 (by decide) (t_X8_in) (Nat.le_of_ble_eq_true rfl) dX8_isSheet_4 ?_
  refine r_zret hR dX8_isSheet_7 bI_n ?_
  refine ⟨congrArg (fun z => some (Value.int z)) (bI_c ?_), rfl⟩
  rw [i64_toInt, cv_0, show (nI 3).toInt = 3 from by decide]

set_option maxHeartbeats 4000000 in
set_option maxRecDepth 100000 in
theorem t_X8_cutTo {G : gG} {M : gM} {b : Nat} {v : Int64} (hb9 : b < 100) : Cf G mX8_cutTo 0 [.int (nI b), .long v] M (some (.long (cutB b v))) M := by
  refine Ct.of (by decide +kernel) (k := 0) (ls0 := [some (.int (nI b)), some (.long v), none]) rfl rfl (fun _ _ => trivial) ?_
  intro P hR
  refine r_iload0 hR dX8_cutTo_0 ?_
  refine r_bipush hR (nI 8) (by decide) dX8_cutTo_1 ?_
  refine r_icmp_ne hR 13 dX8_cutTo_3 (by decide) (fun c3 => ?_) (fun c3 => ?_)
  · try simp (disch := omega) only [nI_ltI, nI_leI, nI_eq, bI_0, Decidable.not_not, lc_lt, lc_gt, lc_ge, lc_le, lc_eq, i64_toInt] at c3
    try simp (disch := omega) only [cv_lt, cv_le, cv_eq, nI_toInt, cv_0] at c3
    first
    | omega
    | refine r_iload0 hR dX8_cutTo_13 ?_
      refine r_bipush hR (nI 16) (by decide) dX8_cutTo_14 ?_
      refine r_icmp_ne hR 26 dX8_cutTo_16 (by decide) (fun c16 => ?_) (fun c16 => ?_)
      · try simp (disch := omega) only [nI_ltI, nI_leI, nI_eq, bI_0, Decidable.not_not, lc_lt, lc_gt, lc_ge, lc_le, lc_eq, i64_toInt] at c16
        try simp (disch := omega) only [cv_lt, cv_le, cv_eq, nI_toInt, cv_0] at c16
        first
        | omega
        | refine r_lload1 hR dX8_cutTo_26 ?_
          refine r_lret hR dX8_cutTo_27 ?_
          refine ⟨congrArg (fun z => some (Value.long z)) ?_, rfl⟩
          unfold cutB
          (repeat' split) <;> first | rfl | omega
      · try simp (disch := omega) only [nI_ltI, nI_leI, nI_eq, bI_0, Decidable.not_not, lc_lt, lc_gt, lc_ge, lc_le, lc_eq, i64_toInt] at c16
        try simp (disch := omega) only [cv_lt, cv_le, cv_eq, nI_toInt, cv_0] at c16
        first
        | omega
        | refine r_lload1 hR dX8_cutTo_19 ?_
          refine r_l2i hR dX8_cutTo_20 ?_
          refine r_i2s hR dX8_cutTo_21 ?_
          refine r_i2l hR dX8_cutTo_22 ?_
          refine r_goto hR 27 dX8_cutTo_23 (by decide) ?_
          refine r_lret hR dX8_cutTo_27 ?_
          refine ⟨congrArg (fun z => some (Value.long z)) ?_, rfl⟩
          unfold cutB
          (repeat' split) <;> first | rfl | omega
  · try simp (disch := omega) only [nI_ltI, nI_leI, nI_eq, bI_0, Decidable.not_not, lc_lt, lc_gt, lc_ge, lc_le, lc_eq, i64_toInt] at c3
    try simp (disch := omega) only [cv_lt, cv_le, cv_eq, nI_toInt, cv_0] at c3
    first
    | omega
    | refine r_lload1 hR dX8_cutTo_6 ?_
      refine r_l2i hR dX8_cutTo_7 ?_
      refine r_i2b hR dX8_cutTo_8 ?_
      refine r_i2l hR dX8_cutTo_9 ?_
      refine r_goto hR 27 dX8_cutTo_10 (by decide) ?_
      refine r_lret hR dX8_cutTo_27 ?_
      refine ⟨congrArg (fun z => some (Value.long z)) ?_, rfl⟩
      unfold cutB
      (repeat' split) <;> first | rfl | omega

set_option maxHeartbeats 4000000 in
set_option maxRecDepth 100000 in
theorem t_X8_notThere {G : gG} {M : gM} {A : gA} {x : Int32} (hc : mdlP M A) (hw : wfA A) : Cf G mX8_notThere 2 [.ref (ad G 15 0), .int x] M (some (.int (ntF A x))) M := by
  obtain ⟨hwf, hday, hwk, hk2, hl, hT, hsh⟩ := id hw
  obtain ⟨w0, w1, w2, w3, wr, wt⟩ := id hwf
  obtain ⟨h, hKp, hkk, hlp, htp, hshp, hfp⟩ := id hc
  refine Ct.of (by decide +kernel) (k := 0) (ls0 := [some (.ref (ad G 15 0)), some (.int x)]) rfl rfl (fun _ _ => trivial) ?_
  intro P hR
  refine r_iload1 hR dX8_notThere_0 ?_
  refine r_cs1v hR ks_X8_200 (by decide) (t_X8_isSheet) (Nat.le_of_ble_eq_true rfl) dX8_notThere_1 ?_
  refine r_if_ne hR 12 dX8_notThere_4 (by decide) (fun c4 => ?_) (fun c4 => ?_)
  · try simp (disch := omega) only [nI_ltI, nI_leI, nI_eq, bI_0, Decidable.not_not, lc_lt, lc_gt, lc_ge, lc_le, lc_eq, i64_toInt] at c4
    try simp (disch := omega) only [cv_lt, cv_le, cv_eq, nI_toInt, cv_0] at c4
    first
    | omega
    | obtain ⟨s, hs, rfl⟩ := of_in (x := x) (N := 3) (by omega)
      obtain ⟨g0, g1, g2⟩ := hshp s (by omega)
      have hb9 : ab A s < 100 := by have := (hsh s (by omega)).1; omega
      have hz4 := (hsh s (by omega)).2
      refine r_aload0 hR dX8_notThere_12 ?_
      refine r_get hR (by first | decide | assumption | (simp only [gcnt_4, gcnt_1, gcnt_2, gcnt_3, gcnt_12, gcnt_13, gcnt_16]; omega)) fl_X8_31 rfl rfl dX8_notThere_13 ?_
      refine r_iload1 hR dX8_notThere_16 ?_
      refine r_iald hR (by first | decide | assumption | (simp only [gcnt_4, gcnt_1, gcnt_2, gcnt_3, gcnt_12, gcnt_13, gcnt_16]; omega)) rfl rfl (by omega) (by decide) dX8_notThere_17 ?_
      rw [g0]
      refine r_if_ne hR 26 dX8_notThere_18 (by decide) (fun c18 => ?_) (fun c18 => ?_)
      · try simp (disch := omega) only [nI_ltI, nI_leI, nI_eq, bI_0, Decidable.not_not, lc_lt, lc_gt, lc_ge, lc_le, lc_eq, i64_toInt] at c18
        try simp (disch := omega) only [cv_lt, cv_le, cv_eq, nI_toInt, cv_0] at c18
        first
        | omega
        | refine r_iconst hR (nI 0) (by decide) dX8_notThere_26 ?_
          refine r_iret hR dX8_notThere_27 ?_
          first
          | (refine ⟨?_, rfl⟩
             unfold ntF
             rw [if_neg (by dsimp only [okI]; omega)])
          | (refine ⟨?_, rfl⟩
             unfold ntF
             rw [if_pos (by simp (disch := omega) only [okI, nI_toInt]; omega), uN_nI (by omega), if_pos (by omega)])
          | (refine ⟨?_, rfl⟩
             unfold ntF
             rw [if_pos (by simp (disch := omega) only [okI, nI_toInt]; omega), uN_nI (by omega), if_neg (by omega)])
      · try simp (disch := omega) only [nI_ltI, nI_leI, nI_eq, bI_0, Decidable.not_not, lc_lt, lc_gt, lc_ge, lc_le, lc_eq, i64_toInt] at c18
        try simp (disch := omega) only [cv_lt, cv_le, cv_eq, nI_toInt, cv_0] at c18
        first
        | omega
        | refine r_ldc hR ct_X8_204 dX8_notThere_21 ?_
          refine r_goto hR 27 dX8_notThere_23 (by decide) ?_
          refine r_iret hR dX8_notThere_27 ?_
          first
          | (refine ⟨?_, rfl⟩
             unfold ntF
             rw [if_neg (by dsimp only [okI]; omega)])
          | (refine ⟨?_, rfl⟩
             unfold ntF
             rw [if_pos (by simp (disch := omega) only [okI, nI_toInt]; omega), uN_nI (by omega), if_pos (by omega)])
          | (refine ⟨?_, rfl⟩
             unfold ntF
             rw [if_pos (by simp (disch := omega) only [okI, nI_toInt]; omega), uN_nI (by omega), if_neg (by omega)])
  · try simp (disch := omega) only [nI_ltI, nI_leI, nI_eq, bI_0, Decidable.not_not, lc_lt, lc_gt, lc_ge, lc_le, lc_eq, i64_toInt] at c4
    try simp (disch := omega) only [cv_lt, cv_le, cv_eq, nI_toInt, cv_0] at c4
    first
    | omega
    | refine r_ldc hR ct_X8_41 dX8_notThere_7 ?_
      refine r_goto hR 27 dX8_notThere_9 (by decide) ?_
      refine r_iret hR dX8_notThere_27 ?_
      first
      | (refine ⟨?_, rfl⟩
         unfold ntF
         rw [if_neg (by dsimp only [okI]; omega)])
      | (refine ⟨?_, rfl⟩
         unfold ntF
         rw [if_pos (by simp (disch := omega) only [okI, nI_toInt]; omega), uN_nI (by omega), if_pos (by omega)])
      | (refine ⟨?_, rfl⟩
         unfold ntF
         rw [if_pos (by simp (disch := omega) only [okI, nI_toInt]; omega), uN_nI (by omega), if_neg (by omega)])

set_option maxHeartbeats 4000000 in
set_option maxRecDepth 100000 in
theorem t_X8_notAsked {G : gG} {M : gM} {A : gA} {x y : Int32} (hc : mdlP M A) (hw : wfA A) : Cf G mX8_notAsked 3 [.ref (ad G 15 0), .int x, .int y] M (some (.int (shF A x y))) M := by
  obtain ⟨hwf, hday, hwk, hk2, hl, hT, hsh⟩ := id hw
  obtain ⟨w0, w1, w2, w3, wr, wt⟩ := id hwf
  obtain ⟨h, hKp, hkk, hlp, htp, hshp, hfp⟩ := id hc
  refine Ct.of (by decide +kernel) (k := 1) (ls0 := [some (.ref (ad G 15 0)), some (.int x), some (.int y), none]) rfl rfl (fun _ _ => trivial) ?_
  intro P hR
  by_cases h1 : okI x 0 3
  · by_cases h2 : ab A (uN x) = 0
    · have hs : ntF A x = -1000000006 := by unfold ntF; rw [if_pos h1, if_pos h2]
      refine r_aload0 hR dX8_notAsked_0 ?_
      refine r_iload1 hR dX8_notAsked_1 ?_
      refine r_cv1v hR kv_X8_205 (by decide) (t_X8_notThere hc hw) (by first | decide | assumption | (simp only [gcnt_4, gcnt_1, gcnt_2, gcnt_3, gcnt_12, gcnt_13, gcnt_16]; omega)) rfl rfl (Nat.le_of_ble_eq_true rfl) dX8_notAsked_2 ?_
      rw [hs]
      refine r_istore3 hR (fun _ h => by first | (cases h; rfl) | exact absurd h (by simp)) dX8_notAsked_5 ?_
      refine r_iload3 hR dX8_notAsked_6 ?_
      refine r_if_ne hR 23 dX8_notAsked_7 (by decide) (fun c7 => ?_) (fun c7 => absurd c7 (by decide))
      refine r_iload3 hR dX8_notAsked_23 ?_
      refine r_iret hR dX8_notAsked_24 ?_
      refine ⟨?_, rfl⟩
      unfold shF
      rw [if_pos h1, if_pos h2]
    · have hs : ntF A x = nI 0 := by unfold ntF; rw [if_pos h1, if_neg h2]
      refine r_aload0 hR dX8_notAsked_0 ?_
      refine r_iload1 hR dX8_notAsked_1 ?_
      refine r_cv1v hR kv_X8_205 (by decide) (t_X8_notThere hc hw) (by first | decide | assumption | (simp only [gcnt_4, gcnt_1, gcnt_2, gcnt_3, gcnt_12, gcnt_13, gcnt_16]; omega)) rfl rfl (Nat.le_of_ble_eq_true rfl) dX8_notAsked_2 ?_
      rw [hs]
      refine r_istore3 hR (fun _ h => by first | (cases h; rfl) | exact absurd h (by simp)) dX8_notAsked_5 ?_
      refine r_iload3 hR dX8_notAsked_6 ?_
      refine r_if_ne hR 23 dX8_notAsked_7 (by decide) (fun c7 => absurd c7 (fun q => q rfl)) (fun c7 => ?_)
      refine r_aload0 hR dX8_notAsked_10 ?_
      refine r_iload2 hR dX8_notAsked_11 ?_
      refine r_cv1v hR kv_X8_97 (by decide) (t_X8_isThing h w3) (by first | decide | assumption | (simp only [gcnt_4, gcnt_1, gcnt_2, gcnt_3, gcnt_12, gcnt_13, gcnt_16]; omega)) rfl rfl (Nat.le_of_ble_eq_true rfl) dX8_notAsked_12 ?_
      refine r_if_ne hR 23 dX8_notAsked_15 (by decide) (fun c15 => ?_) (fun c15 => ?_)
      · try simp (disch := omega) only [nI_ltI, nI_leI, nI_eq, bI_0, Decidable.not_not, lc_lt, lc_gt, lc_ge, lc_le, lc_eq, i64_toInt] at c15
        try simp (disch := omega) only [cv_lt, cv_le, cv_eq, nI_toInt, cv_0] at c15
        first
        | omega
        | refine r_iload3 hR dX8_notAsked_23 ?_
          refine r_iret hR dX8_notAsked_24 ?_
          refine ⟨?_, rfl⟩
          unfold shF
          rw [if_pos h1, if_neg h2]
          first
          | rw [if_pos (by dsimp only [okT]; omega)]
          | rw [if_neg (by dsimp only [okT]; omega)]
      · try simp (disch := omega) only [nI_ltI, nI_leI, nI_eq, bI_0, Decidable.not_not, lc_lt, lc_gt, lc_ge, lc_le, lc_eq, i64_toInt] at c15
        try simp (disch := omega) only [cv_lt, cv_le, cv_eq, nI_toInt, cv_0] at c15
        first
        | omega
        | refine r_ldc hR ct_X8_41 dX8_notAsked_18 ?_
          refine r_goto hR 24 dX8_notAsked_20 (by decide) ?_
          refine r_iret hR dX8_notAsked_24 ?_
          refine ⟨?_, rfl⟩
          unfold shF
          rw [if_pos h1, if_neg h2]
          first
          | rw [if_pos (by dsimp only [okT]; omega)]
          | rw [if_neg (by dsimp only [okT]; omega)]
  · have hs : ntF A x = -1000000001 := by unfold ntF; rw [if_neg h1]
    refine r_aload0 hR dX8_notAsked_0 ?_
    refine r_iload1 hR dX8_notAsked_1 ?_
    refine r_cv1v hR kv_X8_205 (by decide) (t_X8_notThere hc hw) (by first | decide | assumption | (simp only [gcnt_4, gcnt_1, gcnt_2, gcnt_3, gcnt_12, gcnt_13, gcnt_16]; omega)) rfl rfl (Nat.le_of_ble_eq_true rfl) dX8_notAsked_2 ?_
    rw [hs]
    refine r_istore3 hR (fun _ h => by first | (cases h; rfl) | exact absurd h (by simp)) dX8_notAsked_5 ?_
    refine r_iload3 hR dX8_notAsked_6 ?_
    refine r_if_ne hR 23 dX8_notAsked_7 (by decide) (fun c7 => ?_) (fun c7 => absurd c7 (by decide))
    refine r_iload3 hR dX8_notAsked_23 ?_
    refine r_iret hR dX8_notAsked_24 ?_
    refine ⟨?_, rfl⟩
    unfold shF
    rw [if_neg h1]


def putO (M : gM) (o : Nat) (f : Nat → Int64) (n : Nat) : gM := setL M 21 0 (fun j => if o ≤ j ∧ j < o + n then f (j - o) else M.2 21 0 j)
theorem putO_r (M : gM) (o : Nat) (f : Nat → Int64) (n r i k : Nat) : (putO M o f n).2 r i k = if r = 21 ∧ i = 0 ∧ o ≤ k ∧ k < o + n then f (k - o) else M.2 r i k := by
  unfold putO
  rw [setL_r]
  by_cases z : r = 21 ∧ i = 0
  · obtain ⟨rfl, rfl⟩ := z
    rw [if_pos ⟨rfl, rfl⟩]
    by_cases y : o ≤ k ∧ k < o + n
    · rw [if_pos y, if_pos ⟨rfl, rfl, y⟩]
    · rw [if_neg y, if_neg (fun h => y h.2.2)]
  · rw [if_neg z, if_neg (fun h => z ⟨h.1, h.2.1⟩)]
theorem putO_1 (M : gM) (o : Nat) (f : Nat → Int64) (n : Nat) : (putO M o f n).1 = M.1 := rfl
theorem putO_z (M : gM) (o : Nat) (f : Nat → Int64) : putO M o f 0 = M := by
  refine gM_extL rfl (fun r i k => ?_)
  rw [putO_r, if_neg (by omega)]
theorem putO_grow (M : gM) (o : Nat) (f : Nat → Int64) (n : Nat) : setl (putO M o f n) 21 0 (o + n) (f n) = putO M o f (n + 1) := by
  refine gM_extL rfl (fun r i k => ?_)
  rw [setl_r, putO_r, putO_r]
  by_cases z : r = 21 ∧ i = 0 ∧ k = o + n
  · rw [if_pos z, if_pos (by omega), z.2.2, Nat.add_sub_cancel_left]
  · rw [if_neg z]
    by_cases y : r = 21 ∧ i = 0 ∧ o ≤ k ∧ k < o + n
    · rw [if_pos y, if_pos (by omega)]
    · rw [if_neg y, if_neg (by omega)]
theorem setl_pm (M : gM) (S : Nat → Nat) (r i j : Nat) (x : Int64) : setl (pm M S) r i j x = pm (setl M r i j x) S := rfl
theorem bk_putO (M : gM) (o : Nat) (f : Nat → Int64) (n : Nat) : bkM (putO (thM M) o f n) = putO (thM M) o f n := by
  have e : bkM (putO (thM M) o f n) = putO (bkM (thM M)) o f n := rfl
  rw [e, bk_th]
theorem keepC_putO (M : gM) (o : Nat) (f : Nat → Int64) (n : Nat) : keepC M (putO M o f n) := fun r hr => ⟨rfl, by funext i k; rw [putO_r, if_neg (by omega)]⟩
set_option maxHeartbeats 4000000 in
set_option maxRecDepth 100000 in
theorem t_X8_sheet {G : gG} {M : gM} {A : gA} {x y z : Int32} (hc : mdlP M A) (hw : wfA A) : Ct G mX8_sheet 2 [.ref (ad G 15 0), .int x, .int y, .int z] M (Qm M (oSheet A x y z)) := by
  obtain ⟨hwf, hday, hwk, hk2, hl, hT, hsh⟩ := id hw
  obtain ⟨w0, w1, w2, w3, wr, wt⟩ := id hwf
  obtain ⟨h, hKp, hkk, hlp, htp, hshp, hfp⟩ := id hc
  refine Ct.of (by decide +kernel) (k := 1) (ls0 := [some (.ref (ad G 15 0)), some (.int x), some (.int y), some (.int z), none]) rfl rfl (fun _ _ => trivial) ?_
  intro P hR
  refine r_iload1 hR dX8_sheet_0 ?_
  refine r_cs1v hR ks_X8_200 (by decide) (t_X8_isSheet) (Nat.le_of_ble_eq_true rfl) dX8_sheet_1 ?_
  refine r_if_eq hR 29 dX8_sheet_4 (by decide) (fun c4 => ?_) (fun c4 => ?_)
  · try simp (disch := omega) only [nI_ltI, nI_leI, nI_eq, bI_0, Decidable.not_not, lc_lt, lc_gt, lc_ge, lc_le, lc_eq, i64_toInt] at c4
    try simp (disch := omega) only [cv_lt, cv_le, cv_eq, nI_toInt, cv_0] at c4
    first
    | omega
    | refine r_aload0 hR dX8_sheet_29 ?_
      refine r_ldc hR ct_X8_41 dX8_sheet_30 ?_
      refine r_cv1v hR kv_X8_43 (by decide) (t_X8_findsC (n := 0) (by decide) (by decide)) (by first | decide | assumption | (simp only [gcnt_4, gcnt_1, gcnt_2, gcnt_3, gcnt_12, gcnt_13, gcnt_16]; omega)) rfl rfl (Nat.le_of_ble_eq_true rfl) dX8_sheet_32 ?_
      refine r_iret hR dX8_sheet_35 ?_
      refine Qm_fnd hc (by decide) ?_
      unfold oSheet
      refine if_neg ?_
      dsimp only [okI]
      simp (disch := omega) only [cv_eq, nI_toInt, cv_0]
      omega
  · try simp (disch := omega) only [nI_ltI, nI_leI, nI_eq, bI_0, Decidable.not_not, lc_lt, lc_gt, lc_ge, lc_le, lc_eq, i64_toInt] at c4
    try simp (disch := omega) only [cv_lt, cv_le, cv_eq, nI_toInt, cv_0] at c4
    first
    | omega
    | obtain ⟨s, hs, rfl⟩ := of_in (x := x) (N := 3) (by omega)
      have J36 : ∀ b : Nat, (b = 0 ∨ b = 8 ∨ b = 16 ∨ b = 64) → y.toInt = b → P 36 [some (.ref (ad G 15 0)), some (.int (nI s)), some (.int y), some (.int z), none] [] M := by
        intro b hbb hyb
        refine r_iload3 hR dX8_sheet_36 ?_
        refine r_if_ge hR 47 dX8_sheet_37 (by decide) (fun c37 => ?_) (fun c37 => ?_)
        · try simp (disch := omega) only [nI_ltI, nI_leI, nI_eq, bI_0, Decidable.not_not, lc_lt, lc_gt, lc_ge, lc_le, lc_eq, i64_toInt] at c37
          try simp (disch := omega) only [cv_lt, cv_le, cv_eq, nI_toInt, cv_0] at c37
          first
          | omega
          | refine r_iload3 hR dX8_sheet_47 ?_
            refine r_bipush hR (nI 40) (by decide) dX8_sheet_48 ?_
            refine r_icmp_le hR 60 dX8_sheet_50 (by decide) (fun c50 => ?_) (fun c50 => ?_)
            · try simp (disch := omega) only [nI_ltI, nI_leI, nI_eq, bI_0, Decidable.not_not, lc_lt, lc_gt, lc_ge, lc_le, lc_eq, i64_toInt] at c50
              try simp (disch := omega) only [cv_lt, cv_le, cv_eq, nI_toInt, cv_0] at c50
              first
              | omega
              | obtain ⟨n, hn, rfl⟩ := of_in (x := z) (N := 40) (by omega)
                obtain rfl : y = nI b := by rw [cv_eq, nI_toInt (by omega)]; exact hyb
                have hb9 : b < 100 := by omega
                have e : oSheet A (nI s) (nI b) (nI n) = (nI (if b = 0 then 0 else n), sB A (va_up (ab A) s b) (va_up (az A) s (if b = 0 then 0 else n)) (va_up (an A) s (fun _ => 0))) := by
                  unfold oSheet
                  rw [if_pos (by simp (disch := omega) only [okI, nI_toInt, nI_eq]; omega), if_neg (by rw [nI_toInt (by omega)]; omega), if_neg (by rw [nI_toInt (by omega)]; omega)]
                  simp (disch := omega) only [uN_nI]
                have L : ∀ (j i : Nat), i + j = 40 → P 85 [some (.ref (ad G 15 0)), some (.int (nI s)), some (.int (nI b)), some (.int (nI n)), some (.int (nI i))] [] (putO (seti (seti M 20 0 s (nI b)) 20 1 s (nI (if b = 0 then 0 else n))) (40 * s) (fun _ => 0) i) := by
                  intro j
                  induction j with
                  | zero =>
                    intro i  hij 
                    refine r_iload4 hR dX8_sheet_85 ?_
                    refine r_bipush hR (nI 40) (by decide) dX8_sheet_87 ?_
                    refine r_icmp_ge hR 111 dX8_sheet_89 (by decide) (fun c89 => ?_) (fun c89 => ?_)
                    · try simp (disch := omega) only [nI_ltI, nI_leI, nI_eq, bI_0, Decidable.not_not, lc_lt, lc_gt, lc_ge, lc_le, lc_eq, i64_toInt] at c89
                      try simp (disch := omega) only [cv_lt, cv_le, cv_eq, nI_toInt, cv_0] at c89
                      first
                      | omega
                      | refine r_aload0 hR dX8_sheet_111 ?_
                        refine r_get hR (by first | decide | assumption | (simp only [gcnt_4, gcnt_1, gcnt_2, gcnt_3, gcnt_12, gcnt_13, gcnt_16]; omega)) fl_X8_34 rfl rfl dX8_sheet_112 ?_
                        refine r_iload1 hR dX8_sheet_115 ?_
                        refine r_iald hR (by first | decide | assumption | (simp only [gcnt_4, gcnt_1, gcnt_2, gcnt_3, gcnt_12, gcnt_13, gcnt_16]; omega)) rfl rfl (by omega) (by decide) dX8_sheet_116 ?_
                        refine r_nm (nI (if b = 0 then 0 else n)) (by rw [putO_1, seti_r, if_pos ⟨rfl, rfl, rfl⟩]) ?_
                        refine r_iret hR dX8_sheet_117 ?_
                        first
                        | omega
                        | (obtain rfl : i = 40 := by omega
                           unfold Qm
                           rw [e]
                           refine ⟨rfl, mdlP_sh hc (fun r a k q _ => by rw [putO_1, seti_row _ q, seti_row _ q]) (fun u hu => ?_), ((keepC_seti M _ _ _ (by decide)).tr (keepC_seti _ _ _ _ (by decide))).tr (keepC_putO _ _ _ _)⟩
                           rw [putO_1]
                           by_cases q : u = s
                           · subst q
                             exact ⟨by rw [seti_r, if_neg (by omega), seti_r, if_pos ⟨rfl, rfl, rfl⟩, vu_s], by rw [seti_r, if_pos ⟨rfl, rfl, rfl⟩, vu_s], fun j hj => by rw [putO_r, if_pos (by omega), vg_s]⟩
                           · exact ⟨by rw [seti_r, if_neg (by omega), seti_r, if_neg (by omega), vu_o q]; exact (hshp u hu).1, by rw [seti_r, if_neg (by omega), seti_r, if_neg (by omega), vu_o q]; exact (hshp u hu).2.1, fun j hj => by rw [putO_r, if_neg (by omega), vg_o q]; exact (hshp u hu).2.2 j hj⟩)
                    · try simp (disch := omega) only [nI_ltI, nI_leI, nI_eq, bI_0, Decidable.not_not, lc_lt, lc_gt, lc_ge, lc_le, lc_eq, i64_toInt] at c89
                      try simp (disch := omega) only [cv_lt, cv_le, cv_eq, nI_toInt, cv_0] at c89
                      first
                      | omega
                      | refine r_aload0 hR dX8_sheet_92 ?_
                        refine r_get hR (by first | decide | assumption | (simp only [gcnt_4, gcnt_1, gcnt_2, gcnt_3, gcnt_12, gcnt_13, gcnt_16]; omega)) fl_X8_37 rfl rfl dX8_sheet_93 ?_
                        refine r_bipush hR (nI 40) (by decide) dX8_sheet_96 ?_
                        refine r_iload1 hR dX8_sheet_98 ?_
                        refine r_imul hR dX8_sheet_99 ?_
                        try rw [pk_mul]
                        refine r_iload4 hR dX8_sheet_100 ?_
                        refine r_iadd hR dX8_sheet_102 ?_
                        try rw [nI_add]
                        refine r_lconst hR 0 (by decide) dX8_sheet_103 ?_
                        refine r_last hR (by first | decide | assumption | (simp only [gcnt_4, gcnt_1, gcnt_2, gcnt_3, gcnt_12, gcnt_13, gcnt_16]; omega)) (fun _ => rfl) rfl (by omega) (by decide) dX8_sheet_104 ?_
                        refine r_iinc4 hR (nI 1) (by decide) (fun _ h => by first | (cases h; rfl) | exact absurd h (by simp)) dX8_sheet_105 ?_
                        try rw [nI_add]
                        refine r_goto hR 85 dX8_sheet_108 (by decide) ?_
                        omega
                  | succ j ih =>
                    intro i  hij 
                    refine r_iload4 hR dX8_sheet_85 ?_
                    refine r_bipush hR (nI 40) (by decide) dX8_sheet_87 ?_
                    refine r_icmp_ge hR 111 dX8_sheet_89 (by decide) (fun c89 => ?_) (fun c89 => ?_)
                    · try simp (disch := omega) only [nI_ltI, nI_leI, nI_eq, bI_0, Decidable.not_not, lc_lt, lc_gt, lc_ge, lc_le, lc_eq, i64_toInt] at c89
                      try simp (disch := omega) only [cv_lt, cv_le, cv_eq, nI_toInt, cv_0] at c89
                      first
                      | omega
                      | refine r_aload0 hR dX8_sheet_111 ?_
                        refine r_get hR (by first | decide | assumption | (simp only [gcnt_4, gcnt_1, gcnt_2, gcnt_3, gcnt_12, gcnt_13, gcnt_16]; omega)) fl_X8_34 rfl rfl dX8_sheet_112 ?_
                        refine r_iload1 hR dX8_sheet_115 ?_
                        refine r_iald hR (by first | decide | assumption | (simp only [gcnt_4, gcnt_1, gcnt_2, gcnt_3, gcnt_12, gcnt_13, gcnt_16]; omega)) rfl rfl (by omega) (by decide) dX8_sheet_116 ?_
                        refine r_nm (nI (if b = 0 then 0 else n)) (by rw [putO_1, seti_r, if_pos ⟨rfl, rfl, rfl⟩]) ?_
                        refine r_iret hR dX8_sheet_117 ?_
                        first
                        | omega
                        | (obtain rfl : i = 40 := by omega
                           unfold Qm
                           rw [e]
                           refine ⟨rfl, mdlP_sh hc (fun r a k q _ => by rw [putO_1, seti_row _ q, seti_row _ q]) (fun u hu => ?_), ((keepC_seti M _ _ _ (by decide)).tr (keepC_seti _ _ _ _ (by decide))).tr (keepC_putO _ _ _ _)⟩
                           rw [putO_1]
                           by_cases q : u = s
                           · subst q
                             exact ⟨by rw [seti_r, if_neg (by omega), seti_r, if_pos ⟨rfl, rfl, rfl⟩, vu_s], by rw [seti_r, if_pos ⟨rfl, rfl, rfl⟩, vu_s], fun j hj => by rw [putO_r, if_pos (by omega), vg_s]⟩
                           · exact ⟨by rw [seti_r, if_neg (by omega), seti_r, if_neg (by omega), vu_o q]; exact (hshp u hu).1, by rw [seti_r, if_neg (by omega), seti_r, if_neg (by omega), vu_o q]; exact (hshp u hu).2.1, fun j hj => by rw [putO_r, if_neg (by omega), vg_o q]; exact (hshp u hu).2.2 j hj⟩)
                    · try simp (disch := omega) only [nI_ltI, nI_leI, nI_eq, bI_0, Decidable.not_not, lc_lt, lc_gt, lc_ge, lc_le, lc_eq, i64_toInt] at c89
                      try simp (disch := omega) only [cv_lt, cv_le, cv_eq, nI_toInt, cv_0] at c89
                      first
                      | omega
                      | refine r_aload0 hR dX8_sheet_92 ?_
                        refine r_get hR (by first | decide | assumption | (simp only [gcnt_4, gcnt_1, gcnt_2, gcnt_3, gcnt_12, gcnt_13, gcnt_16]; omega)) fl_X8_37 rfl rfl dX8_sheet_93 ?_
                        refine r_bipush hR (nI 40) (by decide) dX8_sheet_96 ?_
                        refine r_iload1 hR dX8_sheet_98 ?_
                        refine r_imul hR dX8_sheet_99 ?_
                        try rw [pk_mul]
                        refine r_iload4 hR dX8_sheet_100 ?_
                        refine r_iadd hR dX8_sheet_102 ?_
                        try rw [nI_add]
                        refine r_lconst hR 0 (by decide) dX8_sheet_103 ?_
                        refine r_last hR (by first | decide | assumption | (simp only [gcnt_4, gcnt_1, gcnt_2, gcnt_3, gcnt_12, gcnt_13, gcnt_16]; omega)) (fun _ => rfl) rfl (by omega) (by decide) dX8_sheet_104 ?_
                        refine r_iinc4 hR (nI 1) (by decide) (fun _ h => by first | (cases h; rfl) | exact absurd h (by simp)) dX8_sheet_105 ?_
                        try rw [nI_add]
                        refine r_goto hR 85 dX8_sheet_108 (by decide) ?_
                        rw [putO_grow _ (40 * s) (fun _ => 0) i]
                        exact ih (i + 1) (by omega)
                have J81 : P 81 [some (.ref (ad G 15 0)), some (.int (nI s)), some (.int (nI b)), some (.int (nI n)), none] [.int (nI (if b = 0 then 0 else n)), .int (nI s), .ref (ad G 20 1)] (seti M 20 0 s (nI b)) := by
                  refine r_iast hR (by first | decide | assumption | (simp only [gcnt_4, gcnt_1, gcnt_2, gcnt_3, gcnt_12, gcnt_13, gcnt_16]; omega)) (fun _ => rfl) rfl (by omega) (by decide) dX8_sheet_81 ?_
                  refine r_iconst hR (nI 0) (by decide) dX8_sheet_82 ?_
                  refine r_istore4 hR (fun _ h => by first | (cases h; rfl) | exact absurd h (by simp)) dX8_sheet_83 ?_
                  refine r_mem (putO_z _ (40 * s) (fun _ => 0)).symm ?_
                  exact L 40 0 rfl
                refine r_aload0 hR dX8_sheet_60 ?_
                refine r_get hR (by first | decide | assumption | (simp only [gcnt_4, gcnt_1, gcnt_2, gcnt_3, gcnt_12, gcnt_13, gcnt_16]; omega)) fl_X8_31 rfl rfl dX8_sheet_61 ?_
                refine r_iload1 hR dX8_sheet_64 ?_
                refine r_iload2 hR dX8_sheet_65 ?_
                refine r_iast hR (by first | decide | assumption | (simp only [gcnt_4, gcnt_1, gcnt_2, gcnt_3, gcnt_12, gcnt_13, gcnt_16]; omega)) (fun _ => rfl) rfl (by omega) (by decide) dX8_sheet_66 ?_
                refine r_aload0 hR dX8_sheet_67 ?_
                refine r_get hR (by first | decide | assumption | (simp only [gcnt_4, gcnt_1, gcnt_2, gcnt_3, gcnt_12, gcnt_13, gcnt_16]; omega)) fl_X8_34 rfl rfl dX8_sheet_68 ?_
                refine r_iload1 hR dX8_sheet_71 ?_
                refine r_iload2 hR dX8_sheet_72 ?_
                refine r_if_ne hR 80 dX8_sheet_73 (by decide) (fun c73 => ?_) (fun c73 => ?_)
                · try simp (disch := omega) only [nI_ltI, nI_leI, nI_eq, bI_0, Decidable.not_not, lc_lt, lc_gt, lc_ge, lc_le, lc_eq, i64_toInt] at c73
                  try simp (disch := omega) only [cv_lt, cv_le, cv_eq, nI_toInt, cv_0] at c73
                  first
                  | omega
                  | refine r_iload3 hR dX8_sheet_80 ?_
                    first
                    | (rw [if_neg c73] at J81; exact J81)
                    | (rw [if_pos c73] at J81; exact J81)
                · try simp (disch := omega) only [nI_ltI, nI_leI, nI_eq, bI_0, Decidable.not_not, lc_lt, lc_gt, lc_ge, lc_le, lc_eq, i64_toInt] at c73
                  try simp (disch := omega) only [cv_lt, cv_le, cv_eq, nI_toInt, cv_0] at c73
                  first
                  | omega
                  | refine r_iconst hR (nI 0) (by decide) dX8_sheet_76 ?_
                    refine r_goto hR 81 dX8_sheet_77 (by decide) ?_
                    first
                    | (rw [if_neg c73] at J81; exact J81)
                    | (rw [if_pos c73] at J81; exact J81)
            · try simp (disch := omega) only [nI_ltI, nI_leI, nI_eq, bI_0, Decidable.not_not, lc_lt, lc_gt, lc_ge, lc_le, lc_eq, i64_toInt] at c50
              try simp (disch := omega) only [cv_lt, cv_le, cv_eq, nI_toInt, cv_0] at c50
              first
              | omega
              | refine r_aload0 hR dX8_sheet_53 ?_
                refine r_ldc hR ct_X8_41 dX8_sheet_54 ?_
                refine r_cv1v hR kv_X8_43 (by decide) (t_X8_findsC (n := 0) (by decide) (by decide)) (by first | decide | assumption | (simp only [gcnt_4, gcnt_1, gcnt_2, gcnt_3, gcnt_12, gcnt_13, gcnt_16]; omega)) rfl rfl (Nat.le_of_ble_eq_true rfl) dX8_sheet_56 ?_
                refine r_iret hR dX8_sheet_59 ?_
                refine Qm_fnd hc (by decide) ?_
                unfold oSheet
                rw [if_pos (by simp (disch := omega) only [okI, cv_eq, nI_toInt]; omega), if_neg (by omega), if_pos (by omega)]
        · try simp (disch := omega) only [nI_ltI, nI_leI, nI_eq, bI_0, Decidable.not_not, lc_lt, lc_gt, lc_ge, lc_le, lc_eq, i64_toInt] at c37
          try simp (disch := omega) only [cv_lt, cv_le, cv_eq, nI_toInt, cv_0] at c37
          first
          | omega
          | refine r_aload0 hR dX8_sheet_40 ?_
            refine r_ldc hR ct_X8_203 dX8_sheet_41 ?_
            refine r_cv1v hR kv_X8_43 (by decide) (t_X8_findsC (n := 6) (by decide) (by decide)) (by first | decide | assumption | (simp only [gcnt_4, gcnt_1, gcnt_2, gcnt_3, gcnt_12, gcnt_13, gcnt_16]; omega)) rfl rfl (Nat.le_of_ble_eq_true rfl) dX8_sheet_43 ?_
            refine r_iret hR dX8_sheet_46 ?_
            refine Qm_fnd hc (by decide) ?_
            unfold oSheet
            rw [if_pos (by simp (disch := omega) only [okI, cv_eq, nI_toInt]; omega), if_pos (by omega)]
      refine r_iload2 hR dX8_sheet_7 ?_
      refine r_if_eq hR 36 dX8_sheet_8 (by decide) (fun c8 => ?_) (fun c8 => ?_)
      · try simp (disch := omega) only [nI_ltI, nI_leI, nI_eq, bI_0, Decidable.not_not, lc_lt, lc_gt, lc_ge, lc_le, lc_eq, i64_toInt] at c8
        try simp (disch := omega) only [cv_lt, cv_le, cv_eq, nI_toInt, cv_0] at c8
        first
        | omega
        | first | exact J36 0 (by omega) (by omega) | exact J36 8 (by omega) (by omega) | exact J36 16 (by omega) (by omega) | exact J36 64 (by omega) (by omega)
      · try simp (disch := omega) only [nI_ltI, nI_leI, nI_eq, bI_0, Decidable.not_not, lc_lt, lc_gt, lc_ge, lc_le, lc_eq, i64_toInt] at c8
        try simp (disch := omega) only [cv_lt, cv_le, cv_eq, nI_toInt, cv_0] at c8
        first
        | omega
        | refine r_iload2 hR dX8_sheet_11 ?_
          refine r_bipush hR (nI 8) (by decide) dX8_sheet_12 ?_
          refine r_icmp_eq hR 36 dX8_sheet_14 (by decide) (fun c14 => ?_) (fun c14 => ?_)
          · try simp (disch := omega) only [nI_ltI, nI_leI, nI_eq, bI_0, Decidable.not_not, lc_lt, lc_gt, lc_ge, lc_le, lc_eq, i64_toInt] at c14
            try simp (disch := omega) only [cv_lt, cv_le, cv_eq, nI_toInt, cv_0] at c14
            first
            | omega
            | first | exact J36 0 (by omega) (by omega) | exact J36 8 (by omega) (by omega) | exact J36 16 (by omega) (by omega) | exact J36 64 (by omega) (by omega)
          · try simp (disch := omega) only [nI_ltI, nI_leI, nI_eq, bI_0, Decidable.not_not, lc_lt, lc_gt, lc_ge, lc_le, lc_eq, i64_toInt] at c14
            try simp (disch := omega) only [cv_lt, cv_le, cv_eq, nI_toInt, cv_0] at c14
            first
            | omega
            | refine r_iload2 hR dX8_sheet_17 ?_
              refine r_bipush hR (nI 16) (by decide) dX8_sheet_18 ?_
              refine r_icmp_eq hR 36 dX8_sheet_20 (by decide) (fun c20 => ?_) (fun c20 => ?_)
              · try simp (disch := omega) only [nI_ltI, nI_leI, nI_eq, bI_0, Decidable.not_not, lc_lt, lc_gt, lc_ge, lc_le, lc_eq, i64_toInt] at c20
                try simp (disch := omega) only [cv_lt, cv_le, cv_eq, nI_toInt, cv_0] at c20
                first
                | omega
                | first | exact J36 0 (by omega) (by omega) | exact J36 8 (by omega) (by omega) | exact J36 16 (by omega) (by omega) | exact J36 64 (by omega) (by omega)
              · try simp (disch := omega) only [nI_ltI, nI_leI, nI_eq, bI_0, Decidable.not_not, lc_lt, lc_gt, lc_ge, lc_le, lc_eq, i64_toInt] at c20
                try simp (disch := omega) only [cv_lt, cv_le, cv_eq, nI_toInt, cv_0] at c20
                first
                | omega
                | refine r_iload2 hR dX8_sheet_23 ?_
                  refine r_bipush hR (nI 64) (by decide) dX8_sheet_24 ?_
                  refine r_icmp_eq hR 36 dX8_sheet_26 (by decide) (fun c26 => ?_) (fun c26 => ?_)
                  · try simp (disch := omega) only [nI_ltI, nI_leI, nI_eq, bI_0, Decidable.not_not, lc_lt, lc_gt, lc_ge, lc_le, lc_eq, i64_toInt] at c26
                    try simp (disch := omega) only [cv_lt, cv_le, cv_eq, nI_toInt, cv_0] at c26
                    first
                    | omega
                    | first | exact J36 0 (by omega) (by omega) | exact J36 8 (by omega) (by omega) | exact J36 16 (by omega) (by omega) | exact J36 64 (by omega) (by omega)
                  · try simp (disch := omega) only [nI_ltI, nI_leI, nI_eq, bI_0, Decidable.not_not, lc_lt, lc_gt, lc_ge, lc_le, lc_eq, i64_toInt] at c26
                    try simp (disch := omega) only [cv_lt, cv_le, cv_eq, nI_toInt, cv_0] at c26
                    first
                    | omega
                    | refine r_aload0 hR dX8_sheet_29 ?_
                      refine r_ldc hR ct_X8_41 dX8_sheet_30 ?_
                      refine r_cv1v hR kv_X8_43 (by decide) (t_X8_findsC (n := 0) (by decide) (by decide)) (by first | decide | assumption | (simp only [gcnt_4, gcnt_1, gcnt_2, gcnt_3, gcnt_12, gcnt_13, gcnt_16]; omega)) rfl rfl (Nat.le_of_ble_eq_true rfl) dX8_sheet_32 ?_
                      refine r_iret hR dX8_sheet_35 ?_
                      refine Qm_fnd hc (by decide) ?_
                      unfold oSheet
                      refine if_neg ?_
                      dsimp only [okI]
                      simp (disch := omega) only [cv_eq, nI_toInt, cv_0]
                      omega

set_option maxHeartbeats 4000000 in
set_option maxRecDepth 100000 in
theorem t_X8_write {G : gG} {M : gM} {A : gA} {x y : Int32} {v : Int64} (hc : mdlP M A) (hw : wfA A) : Ct G mX8_write 3 [.ref (ad G 15 0), .int x, .int y, .long v] M (QmL M (oWrite A x y v)) := by
  obtain ⟨hwf, hday, hwk, hk2, hl, hT, hsh⟩ := id hw
  obtain ⟨w0, w1, w2, w3, wr, wt⟩ := id hwf
  obtain ⟨h, hKp, hkk, hlp, htp, hshp, hfp⟩ := id hc
  refine Ct.of (by decide +kernel) (k := 3) (ls0 := [some (.ref (ad G 15 0)), some (.int x), some (.int y), some (.long v), none, none, none, none]) rfl rfl (fun _ _ => trivial) ?_
  intro P hR
  by_cases h1 : okI x 0 3
  · by_cases h2 : ab A (uN x) = 0
    · have hs : ntF A x = -1000000006 := by unfold ntF; rw [if_pos h1, if_pos h2]
      refine r_aload0 hR dX8_write_0 ?_
      refine r_iload1 hR dX8_write_1 ?_
      refine r_cv1v hR kv_X8_205 (by decide) (t_X8_notThere hc hw) (by first | decide | assumption | (simp only [gcnt_4, gcnt_1, gcnt_2, gcnt_3, gcnt_12, gcnt_13, gcnt_16]; omega)) rfl rfl (Nat.le_of_ble_eq_true rfl) dX8_write_2 ?_
      rw [hs]
      refine r_istore5 hR (fun _ h => by first | (cases h; rfl) | exact absurd h (by simp)) dX8_write_5 ?_
      refine r_iload5 hR dX8_write_7 ?_
      refine r_if_ne hR 33 dX8_write_9 (by decide) (fun c9 => ?_) (fun c9 => absurd c9 (by decide))
      refine r_iload5 hR dX8_write_33 ?_
      refine r_if_eq hR 46 dX8_write_35 (by decide) (fun c35 => absurd c35 (by decide)) (fun c35 => ?_)
      refine r_aload0 hR dX8_write_38 ?_
      refine r_iload5 hR dX8_write_39 ?_
      refine r_cv1v hR kv_X8_43 (by decide) (t_X8_findsC (n := 5) (by decide) (by decide)) (by first | decide | assumption | (simp only [gcnt_4, gcnt_1, gcnt_2, gcnt_3, gcnt_12, gcnt_13, gcnt_16]; omega)) rfl rfl (Nat.le_of_ble_eq_true rfl) dX8_write_41 ?_
      refine r_i2l hR dX8_write_44 ?_
      refine r_lret hR dX8_write_45 ?_
      have e : oWrite A x y v = fndL A 5 := by unfold oWrite; rw [if_pos h1, if_pos h2]
      unfold QmL
      rw [e]
      exact ⟨rfl, mdlP_fnd hc (by decide), keepC_seti M 0 5 _ (by decide)⟩
    · have hs : ntF A x = nI 0 := by unfold ntF; rw [if_pos h1, if_neg h2]
      obtain ⟨s, hs3, rfl⟩ := of_in (x := x) (N := 3) h1
      rw [uN_nI (by omega)] at h2
      obtain ⟨g0, g1, g2⟩ := hshp s (by omega)
      have hb9 : ab A s < 100 := by have := (hsh s (by omega)).1; omega
      have hz4 := (hsh s (by omega)).2
      have e : oWrite A (nI s) y v = (if ab A s = 0 then fndL A 5 else if 0 ≤ y.toInt ∧ y.toInt < az A s then (an A s (uN y), sB A (ab A) (az A) (va_up (an A) s (va_up (an A s) (uN y) (cutB (ab A s) v)))) else fndL A 0) := by
        unfold oWrite
        rw [if_pos h1]
        simp (disch := omega) only [uN_nI]
      have J33a : (0 ≤ y.toInt ∧ y.toInt < az A s) → P 33 [some (.ref (ad G 15 0)), some (.int (nI s)), some (.int y), some (.long v), none, some (.int (nI 0)), none, none] [] M := by
        intro hy
        obtain ⟨i, hi, rfl⟩ := of_in (x := y) (N := 40) (by omega)
        rw [nI_toInt (by omega)] at hy
        refine r_iload5 hR dX8_write_33 ?_
        refine r_if_eq hR 46 dX8_write_35 (by decide) (fun c35 => ?_) (fun c35 => absurd rfl c35)
        refine r_aload0 hR dX8_write_46 ?_
        refine r_get hR (by first | decide | assumption | (simp only [gcnt_4, gcnt_1, gcnt_2, gcnt_3, gcnt_12, gcnt_13, gcnt_16]; omega)) fl_X8_37 rfl rfl dX8_write_47 ?_
        refine r_bipush hR (nI 40) (by decide) dX8_write_50 ?_
        refine r_iload1 hR dX8_write_52 ?_
        refine r_imul hR dX8_write_53 ?_
        try rw [pk_mul]
        refine r_iload2 hR dX8_write_54 ?_
        refine r_iadd hR dX8_write_55 ?_
        try rw [nI_add]
        refine r_lald hR (by first | decide | assumption | (simp only [gcnt_4, gcnt_1, gcnt_2, gcnt_3, gcnt_12, gcnt_13, gcnt_16]; omega)) rfl rfl (by omega) (by decide) dX8_write_56 ?_
        rw [g2 i (by omega)]
        refine r_lstore6 hR (fun _ h => by first | (cases h; rfl) | exact absurd h (by simp)) dX8_write_57 ?_
        refine r_aload0 hR dX8_write_59 ?_
        refine r_get hR (by first | decide | assumption | (simp only [gcnt_4, gcnt_1, gcnt_2, gcnt_3, gcnt_12, gcnt_13, gcnt_16]; omega)) fl_X8_37 rfl rfl dX8_write_60 ?_
        refine r_bipush hR (nI 40) (by decide) dX8_write_63 ?_
        refine r_iload1 hR dX8_write_65 ?_
        refine r_imul hR dX8_write_66 ?_
        try rw [pk_mul]
        refine r_iload2 hR dX8_write_67 ?_
        refine r_iadd hR dX8_write_68 ?_
        try rw [nI_add]
        refine r_aload0 hR dX8_write_69 ?_
        refine r_get hR (by first | decide | assumption | (simp only [gcnt_4, gcnt_1, gcnt_2, gcnt_3, gcnt_12, gcnt_13, gcnt_16]; omega)) fl_X8_31 rfl rfl dX8_write_70 ?_
        refine r_iload1 hR dX8_write_73 ?_
        refine r_iald hR (by first | decide | assumption | (simp only [gcnt_4, gcnt_1, gcnt_2, gcnt_3, gcnt_12, gcnt_13, gcnt_16]; omega)) rfl rfl (by omega) (by decide) dX8_write_74 ?_
        rw [g0]
        refine r_lload3 hR dX8_write_75 ?_
        refine r_cs2v hR ks_X8_208 (by decide) (t_X8_cutTo hb9) (Nat.le_of_ble_eq_true rfl) dX8_write_76 ?_
        refine r_last hR (by first | decide | assumption | (simp only [gcnt_4, gcnt_1, gcnt_2, gcnt_3, gcnt_12, gcnt_13, gcnt_16]; omega)) (fun _ => rfl) rfl (by omega) (by decide) dX8_write_79 ?_
        refine r_lload6 hR dX8_write_80 ?_
        refine r_lret hR dX8_write_82 ?_
        rw [if_neg h2, if_pos (by rw [nI_toInt (by omega)]; omega), uN_nI (by omega)] at e
        unfold QmL
        rw [e]
        refine ⟨rfl, mdlP_sh hc (fun r a k _ _ => rfl) (fun u hu => ⟨(hshp u hu).1, (hshp u hu).2.1, fun j hj => ?_⟩), keepC_setl M _ _ _ (by decide)⟩
        rw [setl_r]
        by_cases q : u = s
        · subst q
          rw [vg_s]
          by_cases q2 : j = i
          · subst q2
            rw [if_pos ⟨rfl, rfl, rfl⟩, vg_s]
          · rw [if_neg (fun h => q2 (by omega)), vg_o q2]
            exact g2 j hj
        · rw [if_neg (fun h => q (by omega)), vg_o q]
          exact (hshp u hu).2.2 j hj
      have J33b : ¬ (0 ≤ y.toInt ∧ y.toInt < az A s) → P 33 [some (.ref (ad G 15 0)), some (.int (nI s)), some (.int y), some (.long v), none, some (.int (-1000000001)), none, none] [] M := by
        intro hy
        refine r_iload5 hR dX8_write_33 ?_
        refine r_if_eq hR 46 dX8_write_35 (by decide) (fun c35 => absurd c35 (by decide)) (fun c35 => ?_)
        refine r_aload0 hR dX8_write_38 ?_
        refine r_iload5 hR dX8_write_39 ?_
        refine r_cv1v hR kv_X8_43 (by decide) (t_X8_findsC (n := 0) (by decide) (by decide)) (by first | decide | assumption | (simp only [gcnt_4, gcnt_1, gcnt_2, gcnt_3, gcnt_12, gcnt_13, gcnt_16]; omega)) rfl rfl (Nat.le_of_ble_eq_true rfl) dX8_write_41 ?_
        refine r_i2l hR dX8_write_44 ?_
        refine r_lret hR dX8_write_45 ?_
        rw [if_neg h2, if_neg hy] at e
        unfold QmL
        rw [e]
        exact ⟨rfl, mdlP_fnd hc (by decide), keepC_seti M 0 0 _ (by decide)⟩
      refine r_aload0 hR dX8_write_0 ?_
      refine r_iload1 hR dX8_write_1 ?_
      refine r_cv1v hR kv_X8_205 (by decide) (t_X8_notThere hc hw) (by first | decide | assumption | (simp only [gcnt_4, gcnt_1, gcnt_2, gcnt_3, gcnt_12, gcnt_13, gcnt_16]; omega)) rfl rfl (Nat.le_of_ble_eq_true rfl) dX8_write_2 ?_
      rw [hs]
      refine r_istore5 hR (fun _ h => by first | (cases h; rfl) | exact absurd h (by simp)) dX8_write_5 ?_
      refine r_iload5 hR dX8_write_7 ?_
      refine r_if_ne hR 33 dX8_write_9 (by decide) (fun c9 => absurd c9 (fun q => q rfl)) (fun c9 => ?_)
      refine r_iload2 hR dX8_write_12 ?_
      refine r_i2l hR dX8_write_13 ?_
      refine r_iconst hR (nI 0) (by decide) dX8_write_14 ?_
      refine r_aload0 hR dX8_write_15 ?_
      refine r_get hR (by first | decide | assumption | (simp only [gcnt_4, gcnt_1, gcnt_2, gcnt_3, gcnt_12, gcnt_13, gcnt_16]; omega)) fl_X8_34 rfl rfl dX8_write_16 ?_
      refine r_iload1 hR dX8_write_19 ?_
      refine r_iald hR (by first | decide | assumption | (simp only [gcnt_4, gcnt_1, gcnt_2, gcnt_3, gcnt_12, gcnt_13, gcnt_16]; omega)) rfl rfl (by omega) (by decide) dX8_write_20 ?_
      rw [g1]
      refine r_iconst hR (nI 1) (by decide) dX8_write_21 ?_
      refine r_isub hR dX8_write_22 ?_
      have hz1 := pk_sub_toInt (a := az A s) (b := 1) (by omega) (by omega)
      refine r_cs3v hR ks_X8_47 (by decide) (t_X8_in) (Nat.le_of_ble_eq_true rfl) dX8_write_23 ?_
      refine r_if_ne hR 33 dX8_write_26 (by decide) (fun c26 => ?_) (fun c26 => ?_)
      · try simp (disch := omega) only [nI_ltI, nI_leI, nI_eq, bI_0, Decidable.not_not, lc_lt, lc_gt, lc_ge, lc_le, lc_eq, i64_toInt] at c26
        try simp (disch := omega) only [cv_lt, cv_le, cv_eq, nI_toInt, cv_0] at c26
        first
        | omega
        | rw [hz1] at c26
          first | exact J33a (by omega) | exact J33b (by omega)
      · try simp (disch := omega) only [nI_ltI, nI_leI, nI_eq, bI_0, Decidable.not_not, lc_lt, lc_gt, lc_ge, lc_le, lc_eq, i64_toInt] at c26
        try simp (disch := omega) only [cv_lt, cv_le, cv_eq, nI_toInt, cv_0] at c26
        first
        | omega
        | rw [hz1] at c26
          refine r_ldc hR ct_X8_41 dX8_write_29 ?_
          refine r_istore5 hR (fun _ h => by first | (cases h; rfl) | exact absurd h (by simp)) dX8_write_31 ?_
          first | exact J33a (by omega) | exact J33b (by omega)
  · have hs : ntF A x = -1000000001 := by unfold ntF; rw [if_neg h1]
    refine r_aload0 hR dX8_write_0 ?_
    refine r_iload1 hR dX8_write_1 ?_
    refine r_cv1v hR kv_X8_205 (by decide) (t_X8_notThere hc hw) (by first | decide | assumption | (simp only [gcnt_4, gcnt_1, gcnt_2, gcnt_3, gcnt_12, gcnt_13, gcnt_16]; omega)) rfl rfl (Nat.le_of_ble_eq_true rfl) dX8_write_2 ?_
    rw [hs]
    refine r_istore5 hR (fun _ h => by first | (cases h; rfl) | exact absurd h (by simp)) dX8_write_5 ?_
    refine r_iload5 hR dX8_write_7 ?_
    refine r_if_ne hR 33 dX8_write_9 (by decide) (fun c9 => ?_) (fun c9 => absurd c9 (by decide))
    refine r_iload5 hR dX8_write_33 ?_
    refine r_if_eq hR 46 dX8_write_35 (by decide) (fun c35 => absurd c35 (by decide)) (fun c35 => ?_)
    refine r_aload0 hR dX8_write_38 ?_
    refine r_iload5 hR dX8_write_39 ?_
    refine r_cv1v hR kv_X8_43 (by decide) (t_X8_findsC (n := 0) (by decide) (by decide)) (by first | decide | assumption | (simp only [gcnt_4, gcnt_1, gcnt_2, gcnt_3, gcnt_12, gcnt_13, gcnt_16]; omega)) rfl rfl (Nat.le_of_ble_eq_true rfl) dX8_write_41 ?_
    refine r_i2l hR dX8_write_44 ?_
    refine r_lret hR dX8_write_45 ?_
    have e : oWrite A x y v = fndL A 0 := by unfold oWrite; rw [if_neg h1]
    unfold QmL
    rw [e]
    exact ⟨rfl, mdlP_fnd hc (by decide), keepC_seti M 0 0 _ (by decide)⟩

set_option maxHeartbeats 4000000 in
set_option maxRecDepth 100000 in
theorem t_X8_lays {G : gG} {M : gM} {A : gA} {x : Int32} (hc : mdlP M A) (hw : wfA A) : Ct G mX8_lays 3 [.ref (ad G 15 0), .int x] M (Qm M (oLays A x)) := by
  obtain ⟨hwf, hday, hwk, hk2, hl, hT, hsh⟩ := id hw
  obtain ⟨w0, w1, w2, w3, wr, wt⟩ := id hwf
  obtain ⟨h, hKp, hkk, hlp, htp, hshp, hfp⟩ := id hc
  refine Ct.of (by decide +kernel) (k := 3) (ls0 := [some (.ref (ad G 15 0)), some (.int x), none, none, none]) rfl rfl (fun _ _ => trivial) ?_
  intro P hR
  by_cases h1 : okI x 0 3
  · by_cases h2 : ab A (uN x) = 0
    · have hs : ntF A x = -1000000006 := by unfold ntF; rw [if_pos h1, if_pos h2]
      refine r_aload0 hR dX8_lays_0 ?_
      refine r_iload1 hR dX8_lays_1 ?_
      refine r_cv1v hR kv_X8_205 (by decide) (t_X8_notThere hc hw) (by first | decide | assumption | (simp only [gcnt_4, gcnt_1, gcnt_2, gcnt_3, gcnt_12, gcnt_13, gcnt_16]; omega)) rfl rfl (Nat.le_of_ble_eq_true rfl) dX8_lays_2 ?_
      rw [hs]
      refine r_istore2 hR (fun _ h => by first | (cases h; rfl) | exact absurd h (by simp)) dX8_lays_5 ?_
      refine r_iload2 hR dX8_lays_6 ?_
      refine r_if_eq hR 16 dX8_lays_7 (by decide) (fun c7 => absurd c7 (by decide)) (fun c7 => ?_)
      refine r_aload0 hR dX8_lays_10 ?_
      refine r_iload2 hR dX8_lays_11 ?_
      refine r_cv1v hR kv_X8_43 (by decide) (t_X8_findsC (n := 5) (by decide) (by decide)) (by first | decide | assumption | (simp only [gcnt_4, gcnt_1, gcnt_2, gcnt_3, gcnt_12, gcnt_13, gcnt_16]; omega)) rfl rfl (Nat.le_of_ble_eq_true rfl) dX8_lays_12 ?_
      refine r_iret hR dX8_lays_15 ?_
      refine Qm_fnd hc (by decide) ?_
      unfold oLays
      rw [if_pos h1, if_pos h2]
    · have hs : ntF A x = nI 0 := by unfold ntF; rw [if_pos h1, if_neg h2]
      obtain ⟨s, hs3, rfl⟩ := of_in (x := x) (N := 3) h1
      rw [uN_nI (by omega)] at h2
      obtain ⟨g0, g1, g2⟩ := hshp s (by omega)
      have hb9 : ab A s < 100 := by have := (hsh s (by omega)).1; omega
      have hz4 := (hsh s (by omega)).2
      have e : oLays A (nI s) = (if ab A s = 0 then fnd A 5 else (nI (layS (aS A) (an A s) (if az A s < 7 then az A s else 7)).1, sS A (layS (aS A) (an A s) (if az A s < 7 then az A s else 7)).2)) := by
        unfold oLays
        rw [if_pos h1]
        simp (disch := omega) only [uN_nI]
      have hzn : (if az A s < 7 then az A s else 7) ≤ 7 ∧ (if az A s < 7 then az A s else 7) ≤ az A s ∧ (az A s ≤ (if az A s < 7 then az A s else 7) ∨ 7 ≤ (if az A s < 7 then az A s else 7)) := by split <;> omega
      have L : ∀ (j i : Nat), i + j = (if az A s < 7 then az A s else 7) → P 21 [some (.ref (ad G 15 0)), some (.int (nI s)), some (.int (nI 0)), some (.int (nI (layS (aS A) (an A s) i).1)), some (.int (nI i))] [] (pm M (layS (aS A) (an A s) i).2) := by
        intro j
        induction j with
        | zero =>
          intro i  hij 
          have p3 : (layS (aS A) (an A s) i).2 3 = aS A 3 := layS_3 _ _ i
          have pl : (layS (aS A) (an A s) i).1 ≤ i := layS_le _ _ i
          have pg1 : (pm M (layS (aS A) (an A s) i).2).1 20 1 s = nI (az A s) := by rw [putR_far M _ _ (by omega)]; exact g1
          have pg2 : i < 40 → (pm M (layS (aS A) (an A s) i).2).2 21 0 (40 * s + i) = an A s i := fun z => g2 i z
          have h8 : (nI 8).toInt = 8 := by decide
          refine r_iload4 hR dX8_lays_21 ?_
          refine r_aload0 hR dX8_lays_23 ?_
          refine r_get hR (by first | decide | assumption | (simp only [gcnt_4, gcnt_1, gcnt_2, gcnt_3, gcnt_12, gcnt_13, gcnt_16]; omega)) fl_X8_34 rfl rfl dX8_lays_24 ?_
          refine r_iload1 hR dX8_lays_27 ?_
          refine r_iald hR (by first | decide | assumption | (simp only [gcnt_4, gcnt_1, gcnt_2, gcnt_3, gcnt_12, gcnt_13, gcnt_16]; omega)) rfl rfl (by omega) (by decide) dX8_lays_28 ?_
          rw [pg1]
          refine r_icmp_ge hR 91 dX8_lays_29 (by decide) (fun c29 => ?_) (fun c29 => ?_)
          · try simp (disch := omega) only [nI_ltI, nI_leI, nI_eq, bI_0, Decidable.not_not, lc_lt, lc_gt, lc_ge, lc_le, lc_eq, i64_toInt] at c29
            try simp (disch := omega) only [cv_lt, cv_le, cv_eq, nI_toInt, cv_0] at c29
            first
            | omega
            | refine r_iload3 hR dX8_lays_91 ?_
              refine r_iret hR dX8_lays_92 ?_
              first
              | omega
              | (have hi7 : (if az A s < 7 then az A s else 7) = i := by split <;> omega
                 rw [e, if_neg h2, hi7]
                 exact ⟨rfl, mdlP_sea hc (putR_160 M _ _) rfl (rowP_pm M _), keepC_row (putR_160 M _ _) rfl⟩)
          · try simp (disch := omega) only [nI_ltI, nI_leI, nI_eq, bI_0, Decidable.not_not, lc_lt, lc_gt, lc_ge, lc_le, lc_eq, i64_toInt] at c29
            try simp (disch := omega) only [cv_lt, cv_le, cv_eq, nI_toInt, cv_0] at c29
            first
            | omega
            | refine r_iload4 hR dX8_lays_32 ?_
              refine r_bipush hR (nI 7) (by decide) dX8_lays_34 ?_
              refine r_icmp_ge hR 91 dX8_lays_36 (by decide) (fun c36 => ?_) (fun c36 => ?_)
              · try simp (disch := omega) only [nI_ltI, nI_leI, nI_eq, bI_0, Decidable.not_not, lc_lt, lc_gt, lc_ge, lc_le, lc_eq, i64_toInt] at c36
                try simp (disch := omega) only [cv_lt, cv_le, cv_eq, nI_toInt, cv_0] at c36
                first
                | omega
                | refine r_iload3 hR dX8_lays_91 ?_
                  refine r_iret hR dX8_lays_92 ?_
                  first
                  | omega
                  | (have hi7 : (if az A s < 7 then az A s else 7) = i := by split <;> omega
                     rw [e, if_neg h2, hi7]
                     exact ⟨rfl, mdlP_sea hc (putR_160 M _ _) rfl (rowP_pm M _), keepC_row (putR_160 M _ _) rfl⟩)
              · try simp (disch := omega) only [nI_ltI, nI_leI, nI_eq, bI_0, Decidable.not_not, lc_lt, lc_gt, lc_ge, lc_le, lc_eq, i64_toInt] at c36
                try simp (disch := omega) only [cv_lt, cv_le, cv_eq, nI_toInt, cv_0] at c36
                first
                | omega
                | refine r_aload0 hR dX8_lays_39 ?_
                  refine r_get hR (by first | decide | assumption | (simp only [gcnt_4, gcnt_1, gcnt_2, gcnt_3, gcnt_12, gcnt_13, gcnt_16]; omega)) fl_X8_37 rfl rfl dX8_lays_40 ?_
                  refine r_bipush hR (nI 40) (by decide) dX8_lays_43 ?_
                  refine r_iload1 hR dX8_lays_45 ?_
                  refine r_imul hR dX8_lays_46 ?_
                  try rw [pk_mul]
                  refine r_iload4 hR dX8_lays_47 ?_
                  refine r_iadd hR dX8_lays_49 ?_
                  try rw [nI_add]
                  refine r_lald hR (by first | decide | assumption | (simp only [gcnt_4, gcnt_1, gcnt_2, gcnt_3, gcnt_12, gcnt_13, gcnt_16]; omega)) rfl rfl (by omega) (by decide) dX8_lays_50 ?_
                  rw [pg2 (by omega)]
                  refine r_iconst hR (nI 0) (by decide) dX8_lays_51 ?_
                  refine r_bipush hR (nI 8) (by decide) dX8_lays_52 ?_
                  refine r_cs3v hR ks_X8_47 (by decide) (t_X8_in) (Nat.le_of_ble_eq_true rfl) dX8_lays_54 ?_
                  refine r_if_eq hR 85 dX8_lays_57 (by decide) (fun c57 => ?_) (fun c57 => ?_)
                  · try simp (disch := omega) only [nI_ltI, nI_leI, nI_eq, bI_0, Decidable.not_not, lc_lt, lc_gt, lc_ge, lc_le, lc_eq, i64_toInt] at c57
                    try simp (disch := omega) only [cv_lt, cv_le, cv_eq, nI_toInt, cv_0] at c57
                    first
                    | omega
                    | refine r_iinc4 hR (nI 1) (by decide) (fun _ h => by first | (cases h; rfl) | exact absurd h (by simp)) dX8_lays_85 ?_
                      try rw [nI_add]
                      refine r_goto hR 21 dX8_lays_88 (by decide) ?_
                      omega
                  · try simp (disch := omega) only [nI_ltI, nI_leI, nI_eq, bI_0, Decidable.not_not, lc_lt, lc_gt, lc_ge, lc_le, lc_eq, i64_toInt] at c57
                    try simp (disch := omega) only [cv_lt, cv_le, cv_eq, nI_toInt, cv_0] at c57
                    first
                    | omega
                    | refine r_aload0 hR dX8_lays_60 ?_
                      refine r_get hR (by first | decide | assumption | (simp only [gcnt_4, gcnt_1, gcnt_2, gcnt_3, gcnt_12, gcnt_13, gcnt_16]; omega)) fl_X8_9 rfl rfl dX8_lays_61 ?_
                      refine r_iconst hR (nI 4) (by decide) dX8_lays_64 ?_
                      refine r_iload4 hR dX8_lays_65 ?_
                      refine r_iadd hR dX8_lays_67 ?_
                      try rw [nI_add]
                      refine r_aload0 hR dX8_lays_68 ?_
                      refine r_get hR (by first | decide | assumption | (simp only [gcnt_4, gcnt_1, gcnt_2, gcnt_3, gcnt_12, gcnt_13, gcnt_16]; omega)) fl_X8_37 rfl rfl dX8_lays_69 ?_
                      refine r_bipush hR (nI 40) (by decide) dX8_lays_72 ?_
                      refine r_iload1 hR dX8_lays_74 ?_
                      refine r_imul hR dX8_lays_75 ?_
                      try rw [pk_mul]
                      refine r_iload4 hR dX8_lays_76 ?_
                      refine r_iadd hR dX8_lays_78 ?_
                      try rw [nI_add]
                      refine r_lald hR (by first | decide | assumption | (simp only [gcnt_4, gcnt_1, gcnt_2, gcnt_3, gcnt_12, gcnt_13, gcnt_16]; omega)) rfl rfl (by omega) (by decide) dX8_lays_79 ?_
                      rw [pg2 (by omega)]
                      refine r_l2i hR dX8_lays_80 ?_
                      rw [l2i_t (by omega) (by omega)]
                      refine r_iast hR (by first | decide | assumption | (simp only [gcnt_4, gcnt_1, gcnt_2, gcnt_3, gcnt_12, gcnt_13, gcnt_16]; omega)) (fun _ => rfl) rfl (by omega) (by decide) dX8_lays_81 ?_
                      
                      refine r_iinc3 hR (nI 1) (by decide) (fun _ h => by first | (cases h; rfl) | exact absurd h (by simp)) dX8_lays_82 ?_
                      try rw [nI_add]
                      refine r_iinc4 hR (nI 1) (by decide) (fun _ h => by first | (cases h; rfl) | exact absurd h (by simp)) dX8_lays_85 ?_
                      try rw [nI_add]
                      refine r_goto hR 21 dX8_lays_88 (by decide) ?_
                      omega
        | succ j ih =>
          intro i  hij 
          have p3 : (layS (aS A) (an A s) i).2 3 = aS A 3 := layS_3 _ _ i
          have pl : (layS (aS A) (an A s) i).1 ≤ i := layS_le _ _ i
          have pg1 : (pm M (layS (aS A) (an A s) i).2).1 20 1 s = nI (az A s) := by rw [putR_far M _ _ (by omega)]; exact g1
          have pg2 : i < 40 → (pm M (layS (aS A) (an A s) i).2).2 21 0 (40 * s + i) = an A s i := fun z => g2 i z
          have h8 : (nI 8).toInt = 8 := by decide
          refine r_iload4 hR dX8_lays_21 ?_
          refine r_aload0 hR dX8_lays_23 ?_
          refine r_get hR (by first | decide | assumption | (simp only [gcnt_4, gcnt_1, gcnt_2, gcnt_3, gcnt_12, gcnt_13, gcnt_16]; omega)) fl_X8_34 rfl rfl dX8_lays_24 ?_
          refine r_iload1 hR dX8_lays_27 ?_
          refine r_iald hR (by first | decide | assumption | (simp only [gcnt_4, gcnt_1, gcnt_2, gcnt_3, gcnt_12, gcnt_13, gcnt_16]; omega)) rfl rfl (by omega) (by decide) dX8_lays_28 ?_
          rw [pg1]
          refine r_icmp_ge hR 91 dX8_lays_29 (by decide) (fun c29 => ?_) (fun c29 => ?_)
          · try simp (disch := omega) only [nI_ltI, nI_leI, nI_eq, bI_0, Decidable.not_not, lc_lt, lc_gt, lc_ge, lc_le, lc_eq, i64_toInt] at c29
            try simp (disch := omega) only [cv_lt, cv_le, cv_eq, nI_toInt, cv_0] at c29
            first
            | omega
            | refine r_iload3 hR dX8_lays_91 ?_
              refine r_iret hR dX8_lays_92 ?_
              first
              | omega
              | (have hi7 : (if az A s < 7 then az A s else 7) = i := by split <;> omega
                 rw [e, if_neg h2, hi7]
                 exact ⟨rfl, mdlP_sea hc (putR_160 M _ _) rfl (rowP_pm M _), keepC_row (putR_160 M _ _) rfl⟩)
          · try simp (disch := omega) only [nI_ltI, nI_leI, nI_eq, bI_0, Decidable.not_not, lc_lt, lc_gt, lc_ge, lc_le, lc_eq, i64_toInt] at c29
            try simp (disch := omega) only [cv_lt, cv_le, cv_eq, nI_toInt, cv_0] at c29
            first
            | omega
            | refine r_iload4 hR dX8_lays_32 ?_
              refine r_bipush hR (nI 7) (by decide) dX8_lays_34 ?_
              refine r_icmp_ge hR 91 dX8_lays_36 (by decide) (fun c36 => ?_) (fun c36 => ?_)
              · try simp (disch := omega) only [nI_ltI, nI_leI, nI_eq, bI_0, Decidable.not_not, lc_lt, lc_gt, lc_ge, lc_le, lc_eq, i64_toInt] at c36
                try simp (disch := omega) only [cv_lt, cv_le, cv_eq, nI_toInt, cv_0] at c36
                first
                | omega
                | refine r_iload3 hR dX8_lays_91 ?_
                  refine r_iret hR dX8_lays_92 ?_
                  first
                  | omega
                  | (have hi7 : (if az A s < 7 then az A s else 7) = i := by split <;> omega
                     rw [e, if_neg h2, hi7]
                     exact ⟨rfl, mdlP_sea hc (putR_160 M _ _) rfl (rowP_pm M _), keepC_row (putR_160 M _ _) rfl⟩)
              · try simp (disch := omega) only [nI_ltI, nI_leI, nI_eq, bI_0, Decidable.not_not, lc_lt, lc_gt, lc_ge, lc_le, lc_eq, i64_toInt] at c36
                try simp (disch := omega) only [cv_lt, cv_le, cv_eq, nI_toInt, cv_0] at c36
                first
                | omega
                | refine r_aload0 hR dX8_lays_39 ?_
                  refine r_get hR (by first | decide | assumption | (simp only [gcnt_4, gcnt_1, gcnt_2, gcnt_3, gcnt_12, gcnt_13, gcnt_16]; omega)) fl_X8_37 rfl rfl dX8_lays_40 ?_
                  refine r_bipush hR (nI 40) (by decide) dX8_lays_43 ?_
                  refine r_iload1 hR dX8_lays_45 ?_
                  refine r_imul hR dX8_lays_46 ?_
                  try rw [pk_mul]
                  refine r_iload4 hR dX8_lays_47 ?_
                  refine r_iadd hR dX8_lays_49 ?_
                  try rw [nI_add]
                  refine r_lald hR (by first | decide | assumption | (simp only [gcnt_4, gcnt_1, gcnt_2, gcnt_3, gcnt_12, gcnt_13, gcnt_16]; omega)) rfl rfl (by omega) (by decide) dX8_lays_50 ?_
                  rw [pg2 (by omega)]
                  refine r_iconst hR (nI 0) (by decide) dX8_lays_51 ?_
                  refine r_bipush hR (nI 8) (by decide) dX8_lays_52 ?_
                  refine r_cs3v hR ks_X8_47 (by decide) (t_X8_in) (Nat.le_of_ble_eq_true rfl) dX8_lays_54 ?_
                  refine r_if_eq hR 85 dX8_lays_57 (by decide) (fun c57 => ?_) (fun c57 => ?_)
                  · try simp (disch := omega) only [nI_ltI, nI_leI, nI_eq, bI_0, Decidable.not_not, lc_lt, lc_gt, lc_ge, lc_le, lc_eq, i64_toInt] at c57
                    try simp (disch := omega) only [cv_lt, cv_le, cv_eq, nI_toInt, cv_0] at c57
                    first
                    | omega
                    | refine r_iinc4 hR (nI 1) (by decide) (fun _ h => by first | (cases h; rfl) | exact absurd h (by simp)) dX8_lays_85 ?_
                      try rw [nI_add]
                      refine r_goto hR 21 dX8_lays_88 (by decide) ?_
                      first
                      | (have el : layS (aS A) (an A s) (i + 1) = ((layS (aS A) (an A s) i).1 + 1, va_up (layS (aS A) (an A s) i).2 (4 + i) (an A s i).toInt.toNat) := by show (if _ then _ else _) = _; rw [if_pos (by omega)]
                         refine r_mem (M2 := pm M (layS (aS A) (an A s) (i + 1)).2) ?_ ?_
                         · rw [el, pm_seti M _ (by omega) (by omega)]
                         · have := ih (i + 1) (by omega)
                           rw [el] at this ⊢
                           exact this)
                      | (have el : layS (aS A) (an A s) (i + 1) = layS (aS A) (an A s) i := by show (if _ then _ else _) = _; rw [if_neg (by omega)]
                         have := ih (i + 1) (by omega)
                         rw [el] at this
                         exact this)
                  · try simp (disch := omega) only [nI_ltI, nI_leI, nI_eq, bI_0, Decidable.not_not, lc_lt, lc_gt, lc_ge, lc_le, lc_eq, i64_toInt] at c57
                    try simp (disch := omega) only [cv_lt, cv_le, cv_eq, nI_toInt, cv_0] at c57
                    first
                    | omega
                    | refine r_aload0 hR dX8_lays_60 ?_
                      refine r_get hR (by first | decide | assumption | (simp only [gcnt_4, gcnt_1, gcnt_2, gcnt_3, gcnt_12, gcnt_13, gcnt_16]; omega)) fl_X8_9 rfl rfl dX8_lays_61 ?_
                      refine r_iconst hR (nI 4) (by decide) dX8_lays_64 ?_
                      refine r_iload4 hR dX8_lays_65 ?_
                      refine r_iadd hR dX8_lays_67 ?_
                      try rw [nI_add]
                      refine r_aload0 hR dX8_lays_68 ?_
                      refine r_get hR (by first | decide | assumption | (simp only [gcnt_4, gcnt_1, gcnt_2, gcnt_3, gcnt_12, gcnt_13, gcnt_16]; omega)) fl_X8_37 rfl rfl dX8_lays_69 ?_
                      refine r_bipush hR (nI 40) (by decide) dX8_lays_72 ?_
                      refine r_iload1 hR dX8_lays_74 ?_
                      refine r_imul hR dX8_lays_75 ?_
                      try rw [pk_mul]
                      refine r_iload4 hR dX8_lays_76 ?_
                      refine r_iadd hR dX8_lays_78 ?_
                      try rw [nI_add]
                      refine r_lald hR (by first | decide | assumption | (simp only [gcnt_4, gcnt_1, gcnt_2, gcnt_3, gcnt_12, gcnt_13, gcnt_16]; omega)) rfl rfl (by omega) (by decide) dX8_lays_79 ?_
                      rw [pg2 (by omega)]
                      refine r_l2i hR dX8_lays_80 ?_
                      rw [l2i_t (by omega) (by omega)]
                      refine r_iast hR (by first | decide | assumption | (simp only [gcnt_4, gcnt_1, gcnt_2, gcnt_3, gcnt_12, gcnt_13, gcnt_16]; omega)) (fun _ => rfl) rfl (by omega) (by decide) dX8_lays_81 ?_
                      
                      refine r_iinc3 hR (nI 1) (by decide) (fun _ h => by first | (cases h; rfl) | exact absurd h (by simp)) dX8_lays_82 ?_
                      try rw [nI_add]
                      refine r_iinc4 hR (nI 1) (by decide) (fun _ h => by first | (cases h; rfl) | exact absurd h (by simp)) dX8_lays_85 ?_
                      try rw [nI_add]
                      refine r_goto hR 21 dX8_lays_88 (by decide) ?_
                      first
                      | (have el : layS (aS A) (an A s) (i + 1) = ((layS (aS A) (an A s) i).1 + 1, va_up (layS (aS A) (an A s) i).2 (4 + i) (an A s i).toInt.toNat) := by show (if _ then _ else _) = _; rw [if_pos (by omega)]
                         refine r_mem (M2 := pm M (layS (aS A) (an A s) (i + 1)).2) ?_ ?_
                         · rw [el, pm_seti M _ (by omega) (by omega)]
                         · have := ih (i + 1) (by omega)
                           rw [el] at this ⊢
                           exact this)
                      | (have el : layS (aS A) (an A s) (i + 1) = layS (aS A) (an A s) i := by show (if _ then _ else _) = _; rw [if_neg (by omega)]
                         have := ih (i + 1) (by omega)
                         rw [el] at this
                         exact this)
      refine r_aload0 hR dX8_lays_0 ?_
      refine r_iload1 hR dX8_lays_1 ?_
      refine r_cv1v hR kv_X8_205 (by decide) (t_X8_notThere hc hw) (by first | decide | assumption | (simp only [gcnt_4, gcnt_1, gcnt_2, gcnt_3, gcnt_12, gcnt_13, gcnt_16]; omega)) rfl rfl (Nat.le_of_ble_eq_true rfl) dX8_lays_2 ?_
      rw [hs]
      refine r_istore2 hR (fun _ h => by first | (cases h; rfl) | exact absurd h (by simp)) dX8_lays_5 ?_
      refine r_iload2 hR dX8_lays_6 ?_
      refine r_if_eq hR 16 dX8_lays_7 (by decide) (fun c7 => ?_) (fun c7 => absurd rfl c7)
      refine r_iconst hR (nI 0) (by decide) dX8_lays_16 ?_
      refine r_istore3 hR (fun _ h => by first | (cases h; rfl) | exact absurd h (by simp)) dX8_lays_17 ?_
      refine r_iconst hR (nI 0) (by decide) dX8_lays_18 ?_
      refine r_istore4 hR (fun _ h => by first | (cases h; rfl) | exact absurd h (by simp)) dX8_lays_19 ?_
      refine r_mem (pm_id h).symm ?_
      exact L (if az A s < 7 then az A s else 7) 0 (by omega)
  · have hs : ntF A x = -1000000001 := by unfold ntF; rw [if_neg h1]
    refine r_aload0 hR dX8_lays_0 ?_
    refine r_iload1 hR dX8_lays_1 ?_
    refine r_cv1v hR kv_X8_205 (by decide) (t_X8_notThere hc hw) (by first | decide | assumption | (simp only [gcnt_4, gcnt_1, gcnt_2, gcnt_3, gcnt_12, gcnt_13, gcnt_16]; omega)) rfl rfl (Nat.le_of_ble_eq_true rfl) dX8_lays_2 ?_
    rw [hs]
    refine r_istore2 hR (fun _ h => by first | (cases h; rfl) | exact absurd h (by simp)) dX8_lays_5 ?_
    refine r_iload2 hR dX8_lays_6 ?_
    refine r_if_eq hR 16 dX8_lays_7 (by decide) (fun c7 => absurd c7 (by decide)) (fun c7 => ?_)
    refine r_aload0 hR dX8_lays_10 ?_
    refine r_iload2 hR dX8_lays_11 ?_
    refine r_cv1v hR kv_X8_43 (by decide) (t_X8_findsC (n := 0) (by decide) (by decide)) (by first | decide | assumption | (simp only [gcnt_4, gcnt_1, gcnt_2, gcnt_3, gcnt_12, gcnt_13, gcnt_16]; omega)) rfl rfl (Nat.le_of_ble_eq_true rfl) dX8_lays_12 ?_
    refine r_iret hR dX8_lays_15 ?_
    refine Qm_fnd hc (by decide) ?_
    unfold oLays
    rw [if_neg h1]

