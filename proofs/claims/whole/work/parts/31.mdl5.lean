set_option maxHeartbeats 4000000 in
set_option maxRecDepth 100000 in
theorem t_X8_kind {G : gG} {M : gM} {A : gA} {x y : Int32} (hc : mdlP M A) (hw : wfA A) : Ct G mX8_kind 8 [.ref (ad G 15 0), .int x, .int y] M (Qm M (oKind A x y)) := by
  obtain ⟨hwf, hday, hwk, hk2, hl, hT, hsh⟩ := id hw
  obtain ⟨w0, w1, w2, w3, wr, wt⟩ := id hwf
  obtain ⟨h, hKp, hkk, hlp, htp, hshp, hfp⟩ := id hc
  refine Ct.of (by decide +kernel) (k := 0) (ls0 := [some (.ref (ad G 15 0)), some (.int x), some (.int y)]) rfl rfl (fun _ _ => trivial) ?_
  intro P hR
  refine r_aload0 hR dX8_kind_0 ?_
  refine r_iload1 hR dX8_kind_1 ?_
  refine r_cv1v hR kv_X8_97 (by decide) (t_X8_isThing h w3) (by first | decide | assumption | (simp only [gcnt_4, gcnt_1, gcnt_2, gcnt_3, gcnt_12, gcnt_13, gcnt_16]; omega)) rfl rfl (Nat.le_of_ble_eq_true rfl) dX8_kind_2 ?_
  refine r_if_eq hR 35 dX8_kind_5 (by decide) (fun c5 => ?_) (fun c5 => ?_)
  · try simp (disch := omega) only [nI_ltI, nI_leI, nI_eq, bI_0, Decidable.not_not, lc_lt, lc_gt, lc_ge, lc_le, lc_eq, i64_toInt] at c5
    try simp (disch := omega) only [cv_lt, cv_le, cv_eq, nI_toInt, cv_0] at c5
    first
    | omega
    | refine r_aload0 hR dX8_kind_35 ?_
      refine r_ldc hR ct_X8_41 dX8_kind_36 ?_
      refine r_cv1v hR kv_X8_43 (by decide) (t_X8_findsC (n := 0) (by decide) (by decide)) (by first | decide | assumption | (simp only [gcnt_4, gcnt_1, gcnt_2, gcnt_3, gcnt_12, gcnt_13, gcnt_16]; omega)) rfl rfl (Nat.le_of_ble_eq_true rfl) dX8_kind_38 ?_
      refine r_iret hR dX8_kind_41 ?_
      first
      | (have e : oKind A (nI t) (nI n) = (nI (bstAt (aS A) (11 + 4 * t) 5 n), A) := by
           unfold oKind
           rw [if_pos (by simp (disch := omega) only [okI, okT, nI_toInt]; omega)]
           simp (disch := omega) only [uN_nI]
         exact Qm_eqY (eqY_th M) hc e)
      | (refine Qm_fnd hc (by decide) ?_
         unfold oKind
         dsimp only [okI, okT]
         (repeat' split) <;> first | rfl | omega)
  · try simp (disch := omega) only [nI_ltI, nI_leI, nI_eq, bI_0, Decidable.not_not, lc_lt, lc_gt, lc_ge, lc_le, lc_eq, i64_toInt] at c5
    try simp (disch := omega) only [cv_lt, cv_le, cv_eq, nI_toInt, cv_0] at c5
    first
    | omega
    | refine r_iload2 hR dX8_kind_8 ?_
      refine r_i2l hR dX8_kind_9 ?_
      refine r_iconst hR (nI 1) (by decide) dX8_kind_10 ?_
      refine r_bipush hR (nI 30) (by decide) dX8_kind_11 ?_
      refine r_cs3v hR ks_X8_47 (by decide) (t_X8_in) (Nat.le_of_ble_eq_true rfl) dX8_kind_13 ?_
      refine r_if_eq hR 35 dX8_kind_16 (by decide) (fun c16 => ?_) (fun c16 => ?_)
      · try simp (disch := omega) only [nI_ltI, nI_leI, nI_eq, bI_0, Decidable.not_not, lc_lt, lc_gt, lc_ge, lc_le, lc_eq, i64_toInt] at c16
        try simp (disch := omega) only [cv_lt, cv_le, cv_eq, nI_toInt, cv_0] at c16
        first
        | omega
        | refine r_aload0 hR dX8_kind_35 ?_
          refine r_ldc hR ct_X8_41 dX8_kind_36 ?_
          refine r_cv1v hR kv_X8_43 (by decide) (t_X8_findsC (n := 0) (by decide) (by decide)) (by first | decide | assumption | (simp only [gcnt_4, gcnt_1, gcnt_2, gcnt_3, gcnt_12, gcnt_13, gcnt_16]; omega)) rfl rfl (Nat.le_of_ble_eq_true rfl) dX8_kind_38 ?_
          refine r_iret hR dX8_kind_41 ?_
          first
          | (have e : oKind A (nI t) (nI n) = (nI (bstAt (aS A) (11 + 4 * t) 5 n), A) := by
               unfold oKind
               rw [if_pos (by simp (disch := omega) only [okI, okT, nI_toInt]; omega)]
               simp (disch := omega) only [uN_nI]
             exact Qm_eqY (eqY_th M) hc e)
          | (refine Qm_fnd hc (by decide) ?_
             unfold oKind
             dsimp only [okI, okT]
             (repeat' split) <;> first | rfl | omega)
      · try simp (disch := omega) only [nI_ltI, nI_leI, nI_eq, bI_0, Decidable.not_not, lc_lt, lc_gt, lc_ge, lc_le, lc_eq, i64_toInt] at c16
        try simp (disch := omega) only [cv_lt, cv_le, cv_eq, nI_toInt, cv_0] at c16
        first
        | omega
        | obtain ⟨n, hn, rfl⟩ := of_in (x := y) (N := 30) (by omega)
          obtain ⟨t, ht0, rfl⟩ := of_in (x := x) (N := aS A 3 - 1) (by omega)
          have htt : t < aS A 3 := by rw [nI_toInt (by omega)] at c5; omega
          simp (disch := omega) only [nI_toInt] at c16
          refine r_aload0 hR dX8_kind_19 ?_
          refine r_bipush hR (nI 11) (by decide) dX8_kind_20 ?_
          refine r_iconst hR (nI 4) (by decide) dX8_kind_22 ?_
          refine r_iload1 hR dX8_kind_23 ?_
          refine r_imul hR dX8_kind_24 ?_
          try rw [pk_mul]
          refine r_iadd hR dX8_kind_25 ?_
          try rw [nI_add]
          refine r_bipush hR (nI 6) (by decide) dX8_kind_26 ?_
          refine r_iload2 hR dX8_kind_28 ?_
          refine r_cv3v hR kv_X8_142 (by decide) (t_X8_bestAt (m := 5) h hwf (by omega) (by omega) (by omega) (by decide) (fun v hv => by have q := wf_th hwf htt (w := 0) (v := v) (by decide) (by omega); rwa [Nat.add_zero] at q) (by omega)) (by first | decide | assumption | (simp only [gcnt_4, gcnt_1, gcnt_2, gcnt_3, gcnt_12, gcnt_13, gcnt_16]; omega)) rfl rfl (Nat.le_of_ble_eq_true rfl) dX8_kind_29 ?_
          refine r_goto hR 41 dX8_kind_32 (by decide) ?_
          refine r_iret hR dX8_kind_41 ?_
          first
          | (have e : oKind A (nI t) (nI n) = (nI (bstAt (aS A) (11 + 4 * t) 5 n), A) := by
               unfold oKind
               rw [if_pos (by simp (disch := omega) only [okI, okT, nI_toInt]; omega)]
               simp (disch := omega) only [uN_nI]
             exact Qm_eqY (eqY_th M) hc e)
          | (refine Qm_fnd hc (by decide) ?_
             unfold oKind
             dsimp only [okI, okT]
             (repeat' split) <;> first | rfl | omega)

set_option maxHeartbeats 4000000 in
set_option maxRecDepth 100000 in
theorem t_X8_facing {G : gG} {M : gM} {A : gA} {x y : Int32} (hc : mdlP M A) (hw : wfA A) : Ct G mX8_facing 8 [.ref (ad G 15 0), .int x, .int y] M (Qm M (oFacing A x y)) := by
  obtain ⟨hwf, hday, hwk, hk2, hl, hT, hsh⟩ := id hw
  obtain ⟨w0, w1, w2, w3, wr, wt⟩ := id hwf
  obtain ⟨h, hKp, hkk, hlp, htp, hshp, hfp⟩ := id hc
  refine Ct.of (by decide +kernel) (k := 0) (ls0 := [some (.ref (ad G 15 0)), some (.int x), some (.int y)]) rfl rfl (fun _ _ => trivial) ?_
  intro P hR
  refine r_aload0 hR dX8_facing_0 ?_
  refine r_iload1 hR dX8_facing_1 ?_
  refine r_cv1v hR kv_X8_97 (by decide) (t_X8_isThing h w3) (by first | decide | assumption | (simp only [gcnt_4, gcnt_1, gcnt_2, gcnt_3, gcnt_12, gcnt_13, gcnt_16]; omega)) rfl rfl (Nat.le_of_ble_eq_true rfl) dX8_facing_2 ?_
  refine r_if_eq hR 37 dX8_facing_5 (by decide) (fun c5 => ?_) (fun c5 => ?_)
  · try simp (disch := omega) only [nI_ltI, nI_leI, nI_eq, bI_0, Decidable.not_not, lc_lt, lc_gt, lc_ge, lc_le, lc_eq, i64_toInt] at c5
    try simp (disch := omega) only [cv_lt, cv_le, cv_eq, nI_toInt, cv_0] at c5
    first
    | omega
    | refine r_aload0 hR dX8_facing_37 ?_
      refine r_ldc hR ct_X8_41 dX8_facing_38 ?_
      refine r_cv1v hR kv_X8_43 (by decide) (t_X8_findsC (n := 0) (by decide) (by decide)) (by first | decide | assumption | (simp only [gcnt_4, gcnt_1, gcnt_2, gcnt_3, gcnt_12, gcnt_13, gcnt_16]; omega)) rfl rfl (Nat.le_of_ble_eq_true rfl) dX8_facing_40 ?_
      refine r_iret hR dX8_facing_43 ?_
      first
      | (have e : oFacing A (nI t) (nI n) = (nI (bstAt (aS A) (11 + 4 * t + 2) 7 n), A) := by
           unfold oFacing
           rw [if_pos (by simp (disch := omega) only [okI, okT, nI_toInt]; omega)]
           simp (disch := omega) only [uN_nI]
         exact Qm_eqY (eqY_th M) hc e)
      | (refine Qm_fnd hc (by decide) ?_
         unfold oFacing
         dsimp only [okI, okT]
         (repeat' split) <;> first | rfl | omega)
  · try simp (disch := omega) only [nI_ltI, nI_leI, nI_eq, bI_0, Decidable.not_not, lc_lt, lc_gt, lc_ge, lc_le, lc_eq, i64_toInt] at c5
    try simp (disch := omega) only [cv_lt, cv_le, cv_eq, nI_toInt, cv_0] at c5
    first
    | omega
    | refine r_iload2 hR dX8_facing_8 ?_
      refine r_i2l hR dX8_facing_9 ?_
      refine r_iconst hR (nI 1) (by decide) dX8_facing_10 ?_
      refine r_bipush hR (nI 30) (by decide) dX8_facing_11 ?_
      refine r_cs3v hR ks_X8_47 (by decide) (t_X8_in) (Nat.le_of_ble_eq_true rfl) dX8_facing_13 ?_
      refine r_if_eq hR 37 dX8_facing_16 (by decide) (fun c16 => ?_) (fun c16 => ?_)
      · try simp (disch := omega) only [nI_ltI, nI_leI, nI_eq, bI_0, Decidable.not_not, lc_lt, lc_gt, lc_ge, lc_le, lc_eq, i64_toInt] at c16
        try simp (disch := omega) only [cv_lt, cv_le, cv_eq, nI_toInt, cv_0] at c16
        first
        | omega
        | refine r_aload0 hR dX8_facing_37 ?_
          refine r_ldc hR ct_X8_41 dX8_facing_38 ?_
          refine r_cv1v hR kv_X8_43 (by decide) (t_X8_findsC (n := 0) (by decide) (by decide)) (by first | decide | assumption | (simp only [gcnt_4, gcnt_1, gcnt_2, gcnt_3, gcnt_12, gcnt_13, gcnt_16]; omega)) rfl rfl (Nat.le_of_ble_eq_true rfl) dX8_facing_40 ?_
          refine r_iret hR dX8_facing_43 ?_
          first
          | (have e : oFacing A (nI t) (nI n) = (nI (bstAt (aS A) (11 + 4 * t + 2) 7 n), A) := by
               unfold oFacing
               rw [if_pos (by simp (disch := omega) only [okI, okT, nI_toInt]; omega)]
               simp (disch := omega) only [uN_nI]
             exact Qm_eqY (eqY_th M) hc e)
          | (refine Qm_fnd hc (by decide) ?_
             unfold oFacing
             dsimp only [okI, okT]
             (repeat' split) <;> first | rfl | omega)
      · try simp (disch := omega) only [nI_ltI, nI_leI, nI_eq, bI_0, Decidable.not_not, lc_lt, lc_gt, lc_ge, lc_le, lc_eq, i64_toInt] at c16
        try simp (disch := omega) only [cv_lt, cv_le, cv_eq, nI_toInt, cv_0] at c16
        first
        | omega
        | obtain ⟨n, hn, rfl⟩ := of_in (x := y) (N := 30) (by omega)
          obtain ⟨t, ht0, rfl⟩ := of_in (x := x) (N := aS A 3 - 1) (by omega)
          have htt : t < aS A 3 := by rw [nI_toInt (by omega)] at c5; omega
          simp (disch := omega) only [nI_toInt] at c16
          refine r_aload0 hR dX8_facing_19 ?_
          refine r_bipush hR (nI 11) (by decide) dX8_facing_20 ?_
          refine r_iconst hR (nI 4) (by decide) dX8_facing_22 ?_
          refine r_iload1 hR dX8_facing_23 ?_
          refine r_imul hR dX8_facing_24 ?_
          try rw [pk_mul]
          refine r_iadd hR dX8_facing_25 ?_
          try rw [nI_add]
          refine r_iconst hR (nI 2) (by decide) dX8_facing_26 ?_
          refine r_iadd hR dX8_facing_27 ?_
          try rw [nI_add]
          refine r_bipush hR (nI 8) (by decide) dX8_facing_28 ?_
          refine r_iload2 hR dX8_facing_30 ?_
          refine r_cv3v hR kv_X8_142 (by decide) (t_X8_bestAt (m := 7) h hwf (by omega) (by omega) (by omega) (by decide) (fun v hv => wf_th hwf htt (by decide) (by omega)) (by omega)) (by first | decide | assumption | (simp only [gcnt_4, gcnt_1, gcnt_2, gcnt_3, gcnt_12, gcnt_13, gcnt_16]; omega)) rfl rfl (Nat.le_of_ble_eq_true rfl) dX8_facing_31 ?_
          refine r_goto hR 43 dX8_facing_34 (by decide) ?_
          refine r_iret hR dX8_facing_43 ?_
          first
          | (have e : oFacing A (nI t) (nI n) = (nI (bstAt (aS A) (11 + 4 * t + 2) 7 n), A) := by
               unfold oFacing
               rw [if_pos (by simp (disch := omega) only [okI, okT, nI_toInt]; omega)]
               simp (disch := omega) only [uN_nI]
             exact Qm_eqY (eqY_th M) hc e)
          | (refine Qm_fnd hc (by decide) ?_
             unfold oFacing
             dsimp only [okI, okT]
             (repeat' split) <;> first | rfl | omega)

set_option maxHeartbeats 4000000 in
set_option maxRecDepth 100000 in
theorem t_X8_best {G : gG} {M : gM} {A : gA} {x y : Int32} (hc : mdlP M A) (hw : wfA A) : Ct G mX8_best 8 [.ref (ad G 15 0), .int x, .int y] M (Qm M (oBest A x y)) := by
  obtain ⟨hwf, hday, hwk, hk2, hl, hT, hsh⟩ := id hw
  obtain ⟨w0, w1, w2, w3, wr, wt⟩ := id hwf
  obtain ⟨h, hKp, hkk, hlp, htp, hshp, hfp⟩ := id hc
  refine Ct.of (by decide +kernel) (k := 0) (ls0 := [some (.ref (ad G 15 0)), some (.int x), some (.int y)]) rfl rfl (fun _ _ => trivial) ?_
  intro P hR
  refine r_iload1 hR dX8_best_0 ?_
  refine r_i2l hR dX8_best_1 ?_
  refine r_iconst hR (nI 0) (by decide) dX8_best_2 ?_
  refine r_bipush hR (nI 6) (by decide) dX8_best_3 ?_
  refine r_cs3v hR ks_X8_47 (by decide) (t_X8_in) (Nat.le_of_ble_eq_true rfl) dX8_best_5 ?_
  refine r_if_eq hR 35 dX8_best_8 (by decide) (fun c8 => ?_) (fun c8 => ?_)
  · try simp (disch := omega) only [nI_ltI, nI_leI, nI_eq, bI_0, Decidable.not_not, lc_lt, lc_gt, lc_ge, lc_le, lc_eq, i64_toInt] at c8
    try simp (disch := omega) only [cv_lt, cv_le, cv_eq, nI_toInt, cv_0] at c8
    first
    | omega
    | refine r_aload0 hR dX8_best_35 ?_
      refine r_ldc hR ct_X8_41 dX8_best_36 ?_
      refine r_cv1v hR kv_X8_43 (by decide) (t_X8_findsC (n := 0) (by decide) (by decide)) (by first | decide | assumption | (simp only [gcnt_4, gcnt_1, gcnt_2, gcnt_3, gcnt_12, gcnt_13, gcnt_16]; omega)) rfl rfl (Nat.le_of_ble_eq_true rfl) dX8_best_38 ?_
      refine r_iret hR dX8_best_41 ?_
      first
      | (have e : oBest A (nI d) (nI n) = (nI (bstAt (aS A) (4 + d) 8 n), A) := by
           unfold oBest
           rw [if_pos (by simp (disch := omega) only [okI, okT, nI_toInt]; omega)]
           simp (disch := omega) only [uN_nI]
         exact Qm_eqY (eqY_th M) hc e)
      | (refine Qm_fnd hc (by decide) ?_
         unfold oBest
         dsimp only [okI, okT]
         (repeat' split) <;> first | rfl | omega)
  · try simp (disch := omega) only [nI_ltI, nI_leI, nI_eq, bI_0, Decidable.not_not, lc_lt, lc_gt, lc_ge, lc_le, lc_eq, i64_toInt] at c8
    try simp (disch := omega) only [cv_lt, cv_le, cv_eq, nI_toInt, cv_0] at c8
    first
    | omega
    | refine r_iload2 hR dX8_best_11 ?_
      refine r_i2l hR dX8_best_12 ?_
      refine r_iconst hR (nI 1) (by decide) dX8_best_13 ?_
      refine r_bipush hR (nI 30) (by decide) dX8_best_14 ?_
      refine r_cs3v hR ks_X8_47 (by decide) (t_X8_in) (Nat.le_of_ble_eq_true rfl) dX8_best_16 ?_
      refine r_if_eq hR 35 dX8_best_19 (by decide) (fun c19 => ?_) (fun c19 => ?_)
      · try simp (disch := omega) only [nI_ltI, nI_leI, nI_eq, bI_0, Decidable.not_not, lc_lt, lc_gt, lc_ge, lc_le, lc_eq, i64_toInt] at c19
        try simp (disch := omega) only [cv_lt, cv_le, cv_eq, nI_toInt, cv_0] at c19
        first
        | omega
        | refine r_aload0 hR dX8_best_35 ?_
          refine r_ldc hR ct_X8_41 dX8_best_36 ?_
          refine r_cv1v hR kv_X8_43 (by decide) (t_X8_findsC (n := 0) (by decide) (by decide)) (by first | decide | assumption | (simp only [gcnt_4, gcnt_1, gcnt_2, gcnt_3, gcnt_12, gcnt_13, gcnt_16]; omega)) rfl rfl (Nat.le_of_ble_eq_true rfl) dX8_best_38 ?_
          refine r_iret hR dX8_best_41 ?_
          first
          | (have e : oBest A (nI d) (nI n) = (nI (bstAt (aS A) (4 + d) 8 n), A) := by
               unfold oBest
               rw [if_pos (by simp (disch := omega) only [okI, okT, nI_toInt]; omega)]
               simp (disch := omega) only [uN_nI]
             exact Qm_eqY (eqY_th M) hc e)
          | (refine Qm_fnd hc (by decide) ?_
             unfold oBest
             dsimp only [okI, okT]
             (repeat' split) <;> first | rfl | omega)
      · try simp (disch := omega) only [nI_ltI, nI_leI, nI_eq, bI_0, Decidable.not_not, lc_lt, lc_gt, lc_ge, lc_le, lc_eq, i64_toInt] at c19
        try simp (disch := omega) only [cv_lt, cv_le, cv_eq, nI_toInt, cv_0] at c19
        first
        | omega
        | obtain ⟨d, hd, rfl⟩ := of_in (x := x) (N := 6) (by omega)
          obtain ⟨n, hn, rfl⟩ := of_in (x := y) (N := 30) (by omega)
          simp (disch := omega) only [nI_toInt] at c19
          refine r_aload0 hR dX8_best_22 ?_
          refine r_iconst hR (nI 4) (by decide) dX8_best_23 ?_
          refine r_iload1 hR dX8_best_24 ?_
          refine r_iadd hR dX8_best_25 ?_
          try rw [nI_add]
          refine r_bipush hR (nI 9) (by decide) dX8_best_26 ?_
          refine r_iload2 hR dX8_best_28 ?_
          refine r_cv3v hR kv_X8_142 (by decide) (t_X8_bestAt (m := 8) h hwf (by omega) (by omega) (by omega) (by decide) (fun v hv => wf_rota hwf (by omega) hv) (by omega)) (by first | decide | assumption | (simp only [gcnt_4, gcnt_1, gcnt_2, gcnt_3, gcnt_12, gcnt_13, gcnt_16]; omega)) rfl rfl (Nat.le_of_ble_eq_true rfl) dX8_best_29 ?_
          refine r_goto hR 41 dX8_best_32 (by decide) ?_
          refine r_iret hR dX8_best_41 ?_
          first
          | (have e : oBest A (nI d) (nI n) = (nI (bstAt (aS A) (4 + d) 8 n), A) := by
               unfold oBest
               rw [if_pos (by simp (disch := omega) only [okI, okT, nI_toInt]; omega)]
               simp (disch := omega) only [uN_nI]
             exact Qm_eqY (eqY_th M) hc e)
          | (refine Qm_fnd hc (by decide) ?_
             unfold oBest
             dsimp only [okI, okT]
             (repeat' split) <;> first | rfl | omega)

