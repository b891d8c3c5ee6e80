set_option maxHeartbeats 4000000 in
set_option maxRecDepth 100000 in
theorem t_X8_rota {G : gG} {M : gM} {A : gA} {x y : Int32} (hc : mdlP M A) (hw : wfA A) : Ct G mX8_rota 1 [.ref (ad G 15 0), .int x, .int y] M (Qm M (oRota A x y)) := by
  obtain ⟨hwf, hday, hwk, hk2, hl, hT, hsh⟩ := id hw
  obtain ⟨w0, w1, w2, w3, wr, wt⟩ := id hwf
  obtain ⟨h, hKp, hkk, hlp, htp, hshp, hfp⟩ := id hc
  refine Ct.of (by decide +kernel) (k := 0) (ls0 := [some (.ref (ad G 15 0)), some (.int x), some (.int y)]) rfl rfl (fun _ _ => trivial) ?_
  intro P hR
  refine r_iload1 hR dX8_rota_0 ?_
  refine r_i2l hR dX8_rota_1 ?_
  refine r_iconst hR (nI 0) (by decide) dX8_rota_2 ?_
  refine r_bipush hR (nI 6) (by decide) dX8_rota_3 ?_
  refine r_cs3v hR ks_X8_47 (by decide) (t_X8_in) (Nat.le_of_ble_eq_true rfl) dX8_rota_5 ?_
  refine r_if_eq hR 33 dX8_rota_8 (by decide) (fun c8 => ?_) (fun c8 => ?_)
  · try simp (disch := omega) only [nI_ltI, nI_leI, nI_eq, bI_0, Decidable.not_not, lc_lt, lc_gt, lc_ge, lc_le, lc_eq, i64_toInt] at c8
    try simp (disch := omega) only [cv_lt, cv_le, cv_eq, nI_toInt, cv_0] at c8
    first
    | omega
    | refine r_aload0 hR dX8_rota_33 ?_
      refine r_ldc hR ct_X8_41 dX8_rota_34 ?_
      refine r_cv1v hR kv_X8_43 (by decide) (t_X8_findsC (n := 0) (by decide) (by decide)) (by first | decide | assumption | (simp only [gcnt_4, gcnt_1, gcnt_2, gcnt_3, gcnt_12, gcnt_13, gcnt_16]; omega)) rfl rfl (Nat.le_of_ble_eq_true rfl) dX8_rota_36 ?_
      refine r_iret hR dX8_rota_39 ?_
      first
      | (have e : oRota A (nI d) (nI w) = (nI (aS A (4 + d)), sS A (va_up (aS A) (4 + d) w)) := by
           unfold oRota
           rw [if_pos (by simp (disch := omega) only [okI, okT, nI_toInt]; omega)]
           simp (disch := omega) only [uN_nI]
         unfold Qm
         rw [e]
         exact ⟨rfl, mdlP_sea hc (seti_160 M _ _) rfl (rowP_up h (by omega)), keepC_row (seti_160 M _ _) rfl⟩)
      | (refine Qm_fnd hc (by decide) ?_
         unfold oRota
         dsimp only [okI, okT]
         (repeat' split) <;> first | rfl | omega)
  · try simp (disch := omega) only [nI_ltI, nI_leI, nI_eq, bI_0, Decidable.not_not, lc_lt, lc_gt, lc_ge, lc_le, lc_eq, i64_toInt] at c8
    try simp (disch := omega) only [cv_lt, cv_le, cv_eq, nI_toInt, cv_0] at c8
    first
    | omega
    | refine r_iload2 hR dX8_rota_11 ?_
      refine r_i2l hR dX8_rota_12 ?_
      refine r_iconst hR (nI 0) (by decide) dX8_rota_13 ?_
      refine r_bipush hR (nI 8) (by decide) dX8_rota_14 ?_
      refine r_cs3v hR ks_X8_47 (by decide) (t_X8_in) (Nat.le_of_ble_eq_true rfl) dX8_rota_16 ?_
      refine r_if_eq hR 33 dX8_rota_19 (by decide) (fun c19 => ?_) (fun c19 => ?_)
      · try simp (disch := omega) only [nI_ltI, nI_leI, nI_eq, bI_0, Decidable.not_not, lc_lt, lc_gt, lc_ge, lc_le, lc_eq, i64_toInt] at c19
        try simp (disch := omega) only [cv_lt, cv_le, cv_eq, nI_toInt, cv_0] at c19
        first
        | omega
        | refine r_aload0 hR dX8_rota_33 ?_
          refine r_ldc hR ct_X8_41 dX8_rota_34 ?_
          refine r_cv1v hR kv_X8_43 (by decide) (t_X8_findsC (n := 0) (by decide) (by decide)) (by first | decide | assumption | (simp only [gcnt_4, gcnt_1, gcnt_2, gcnt_3, gcnt_12, gcnt_13, gcnt_16]; omega)) rfl rfl (Nat.le_of_ble_eq_true rfl) dX8_rota_36 ?_
          refine r_iret hR dX8_rota_39 ?_
          first
          | (have e : oRota A (nI d) (nI w) = (nI (aS A (4 + d)), sS A (va_up (aS A) (4 + d) w)) := by
               unfold oRota
               rw [if_pos (by simp (disch := omega) only [okI, okT, nI_toInt]; omega)]
               simp (disch := omega) only [uN_nI]
             unfold Qm
             rw [e]
             exact ⟨rfl, mdlP_sea hc (seti_160 M _ _) rfl (rowP_up h (by omega)), keepC_row (seti_160 M _ _) rfl⟩)
          | (refine Qm_fnd hc (by decide) ?_
             unfold oRota
             dsimp only [okI, okT]
             (repeat' split) <;> first | rfl | omega)
      · try simp (disch := omega) only [nI_ltI, nI_leI, nI_eq, bI_0, Decidable.not_not, lc_lt, lc_gt, lc_ge, lc_le, lc_eq, i64_toInt] at c19
        try simp (disch := omega) only [cv_lt, cv_le, cv_eq, nI_toInt, cv_0] at c19
        first
        | omega
        | obtain ⟨d, hd, rfl⟩ := of_in (x := x) (N := 6) (by omega)
          obtain ⟨w, hw, rfl⟩ := of_in (x := y) (N := 8) (by omega)
          refine r_aload0 hR dX8_rota_22 ?_
          refine r_iconst hR (nI 4) (by decide) dX8_rota_23 ?_
          refine r_iload1 hR dX8_rota_24 ?_
          refine r_iadd hR dX8_rota_25 ?_
          try rw [nI_add]
          refine r_iload2 hR dX8_rota_26 ?_
          refine r_cv2v hR kv_X8_51 (by decide) (t_X8_becomes (by omega)) (by first | decide | assumption | (simp only [gcnt_4, gcnt_1, gcnt_2, gcnt_3, gcnt_12, gcnt_13, gcnt_16]; omega)) rfl rfl (Nat.le_of_ble_eq_true rfl) dX8_rota_27 ?_
          rw [h (4 + d) (by omega)]
          refine r_goto hR 39 dX8_rota_30 (by decide) ?_
          refine r_iret hR dX8_rota_39 ?_
          first
          | (have e : oRota A (nI d) (nI w) = (nI (aS A (4 + d)), sS A (va_up (aS A) (4 + d) w)) := by
               unfold oRota
               rw [if_pos (by simp (disch := omega) only [okI, okT, nI_toInt]; omega)]
               simp (disch := omega) only [uN_nI]
             unfold Qm
             rw [e]
             exact ⟨rfl, mdlP_sea hc (seti_160 M _ _) rfl (rowP_up h (by omega)), keepC_row (seti_160 M _ _) rfl⟩)
          | (refine Qm_fnd hc (by decide) ?_
             unfold oRota
             dsimp only [okI, okT]
             (repeat' split) <;> first | rfl | omega)

set_option maxHeartbeats 4000000 in
set_option maxRecDepth 100000 in
theorem t_X8_rotaOf {G : gG} {M : gM} {A : gA} {x : Int32} (hc : mdlP M A) (hw : wfA A) : Ct G mX8_rotaOf 1 [.ref (ad G 15 0), .int x] M (Qm M (oRotaOf A x)) := by
  obtain ⟨hwf, hday, hwk, hk2, hl, hT, hsh⟩ := id hw
  obtain ⟨w0, w1, w2, w3, wr, wt⟩ := id hwf
  obtain ⟨h, hKp, hkk, hlp, htp, hshp, hfp⟩ := id hc
  refine Ct.of (by decide +kernel) (k := 0) (ls0 := [some (.ref (ad G 15 0)), some (.int x)]) rfl rfl (fun _ _ => trivial) ?_
  intro P hR
  refine r_iload1 hR dX8_rotaOf_0 ?_
  refine r_i2l hR dX8_rotaOf_1 ?_
  refine r_iconst hR (nI 0) (by decide) dX8_rotaOf_2 ?_
  refine r_bipush hR (nI 6) (by decide) dX8_rotaOf_3 ?_
  refine r_cs3v hR ks_X8_47 (by decide) (t_X8_in) (Nat.le_of_ble_eq_true rfl) dX8_rotaOf_5 ?_
  refine r_if_eq hR 22 dX8_rotaOf_8 (by decide) (fun c8 => ?_) (fun c8 => ?_)
  · try simp (disch := omega) only [nI_ltI, nI_leI, nI_eq, bI_0, Decidable.not_not, lc_lt, lc_gt, lc_ge, lc_le, lc_eq, i64_toInt] at c8
    try simp (disch := omega) only [cv_lt, cv_le, cv_eq, nI_toInt, cv_0] at c8
    first
    | omega
    | refine r_aload0 hR dX8_rotaOf_22 ?_
      refine r_ldc hR ct_X8_41 dX8_rotaOf_23 ?_
      refine r_cv1v hR kv_X8_43 (by decide) (t_X8_findsC (n := 0) (by decide) (by decide)) (by first | decide | assumption | (simp only [gcnt_4, gcnt_1, gcnt_2, gcnt_3, gcnt_12, gcnt_13, gcnt_16]; omega)) rfl rfl (Nat.le_of_ble_eq_true rfl) dX8_rotaOf_25 ?_
      refine r_iret hR dX8_rotaOf_28 ?_
      first
      | (have e : oRotaOf A (nI d) = (nI (aS A (4 + d)), A) := by
           unfold oRotaOf
           rw [if_pos (by simp (disch := omega) only [okI, okT, nI_toInt]; omega)]
           simp (disch := omega) only [uN_nI]
         unfold Qm
         rw [e]
         exact ⟨rfl, hc, keepC.rf M⟩)
      | (refine Qm_fnd hc (by decide) ?_
         unfold oRotaOf
         dsimp only [okI, okT]
         (repeat' split) <;> first | rfl | omega)
  · try simp (disch := omega) only [nI_ltI, nI_leI, nI_eq, bI_0, Decidable.not_not, lc_lt, lc_gt, lc_ge, lc_le, lc_eq, i64_toInt] at c8
    try simp (disch := omega) only [cv_lt, cv_le, cv_eq, nI_toInt, cv_0] at c8
    first
    | omega
    | obtain ⟨d, hd, rfl⟩ := of_in (x := x) (N := 6) (by omega)
      refine r_aload0 hR dX8_rotaOf_11 ?_
      refine r_get hR (by first | decide | assumption | (simp only [gcnt_4, gcnt_1, gcnt_2, gcnt_3, gcnt_12, gcnt_13, gcnt_16]; omega)) fl_X8_9 rfl rfl dX8_rotaOf_12 ?_
      refine r_iconst hR (nI 4) (by decide) dX8_rotaOf_15 ?_
      refine r_iload1 hR dX8_rotaOf_16 ?_
      refine r_iadd hR dX8_rotaOf_17 ?_
      try rw [nI_add]
      refine r_iald hR (by first | decide | assumption | (simp only [gcnt_4, gcnt_1, gcnt_2, gcnt_3, gcnt_12, gcnt_13, gcnt_16]; omega)) rfl rfl (by omega) (by decide) dX8_rotaOf_18 ?_
      rw [h (4 + d) (by omega)]
      refine r_goto hR 28 dX8_rotaOf_19 (by decide) ?_
      refine r_iret hR dX8_rotaOf_28 ?_
      first
      | (have e : oRotaOf A (nI d) = (nI (aS A (4 + d)), A) := by
           unfold oRotaOf
           rw [if_pos (by simp (disch := omega) only [okI, okT, nI_toInt]; omega)]
           simp (disch := omega) only [uN_nI]
         unfold Qm
         rw [e]
         exact ⟨rfl, hc, keepC.rf M⟩)
      | (refine Qm_fnd hc (by decide) ?_
         unfold oRotaOf
         dsimp only [okI, okT]
         (repeat' split) <;> first | rfl | omega)

set_option maxHeartbeats 4000000 in
set_option maxRecDepth 100000 in
theorem t_X8_sick {G : gG} {M : gM} {A : gA} {x y : Int32} (hc : mdlP M A) (hw : wfA A) : Ct G mX8_sick 2 [.ref (ad G 15 0), .int x, .int y] M (Qm M (oSick A x y)) := by
  obtain ⟨hwf, hday, hwk, hk2, hl, hT, hsh⟩ := id hw
  obtain ⟨w0, w1, w2, w3, wr, wt⟩ := id hwf
  obtain ⟨h, hKp, hkk, hlp, htp, hshp, hfp⟩ := id hc
  refine Ct.of (by decide +kernel) (k := 1) (ls0 := [some (.ref (ad G 15 0)), some (.int x), some (.int y), none]) rfl rfl (fun _ _ => trivial) ?_
  intro P hR
  refine r_iload1 hR dX8_sick_0 ?_
  refine r_cs1v hR ks_X8_55 (by decide) (t_X8_isWind) (Nat.le_of_ble_eq_true rfl) dX8_sick_1 ?_
  refine r_if_eq hR 17 dX8_sick_4 (by decide) (fun c4 => ?_) (fun c4 => ?_)
  · try simp (disch := omega) only [nI_ltI, nI_leI, nI_eq, bI_0, Decidable.not_not, lc_lt, lc_gt, lc_ge, lc_le, lc_eq, i64_toInt] at c4
    try simp (disch := omega) only [cv_lt, cv_le, cv_eq, nI_toInt, cv_0] at c4
    first
    | omega
    | refine r_aload0 hR dX8_sick_17 ?_
      refine r_ldc hR ct_X8_41 dX8_sick_18 ?_
      refine r_cv1v hR kv_X8_43 (by decide) (t_X8_findsC (n := 0) (by decide) (by decide)) (by first | decide | assumption | (simp only [gcnt_4, gcnt_1, gcnt_2, gcnt_3, gcnt_12, gcnt_13, gcnt_16]; omega)) rfl rfl (Nat.le_of_ble_eq_true rfl) dX8_sick_20 ?_
      refine r_iret hR dX8_sick_23 ?_
      refine Qm_fnd hc (by decide) ?_
      unfold oSick
      dsimp only [okI, okT]
      (repeat' split) <;> first | rfl | omega
  · try simp (disch := omega) only [nI_ltI, nI_leI, nI_eq, bI_0, Decidable.not_not, lc_lt, lc_gt, lc_ge, lc_le, lc_eq, i64_toInt] at c4
    try simp (disch := omega) only [cv_lt, cv_le, cv_eq, nI_toInt, cv_0] at c4
    first
    | omega
    | refine r_iload2 hR dX8_sick_7 ?_
      refine r_i2l hR dX8_sick_8 ?_
      refine r_iconst hR (nI 0) (by decide) dX8_sick_9 ?_
      refine r_iconst hR (nI 1) (by decide) dX8_sick_10 ?_
      refine r_cs3v hR ks_X8_47 (by decide) (t_X8_in) (Nat.le_of_ble_eq_true rfl) dX8_sick_11 ?_
      refine r_if_ne hR 24 dX8_sick_14 (by decide) (fun c14 => ?_) (fun c14 => ?_)
      · try simp (disch := omega) only [nI_ltI, nI_leI, nI_eq, bI_0, Decidable.not_not, lc_lt, lc_gt, lc_ge, lc_le, lc_eq, i64_toInt] at c14
        try simp (disch := omega) only [cv_lt, cv_le, cv_eq, nI_toInt, cv_0] at c14
        first
        | omega
        | obtain ⟨d, hd, rfl⟩ := of_in (x := x) (N := 7) (by omega)
          obtain ⟨v, hv, rfl⟩ := of_in (x := y) (N := 1) (by omega)
          refine r_aload0 hR dX8_sick_24 ?_
          refine r_get hR (by first | decide | assumption | (simp only [gcnt_4, gcnt_1, gcnt_2, gcnt_3, gcnt_12, gcnt_13, gcnt_16]; omega)) fl_X8_9 rfl rfl dX8_sick_25 ?_
          refine r_iconst hR (nI 2) (by decide) dX8_sick_28 ?_
          refine r_iald hR (by first | decide | assumption | (simp only [gcnt_4, gcnt_1, gcnt_2, gcnt_3, gcnt_12, gcnt_13, gcnt_16]; omega)) rfl rfl (by omega) (by decide) dX8_sick_29 ?_
          rw [h 2 (by omega)]
          refine r_iload1 hR dX8_sick_30 ?_
          refine r_ishr hR dX8_sick_31 ?_
          refine r_iconst hR (nI 1) (by decide) dX8_sick_32 ?_
          refine r_iand hR dX8_sick_33 ?_
          refine r_nm _ (sick_t (aS A 2) w2 d (by omega)).1 ?_
          refine r_istore3 hR (fun _ h => by first | (cases h; rfl) | exact absurd h (by simp)) dX8_sick_34 ?_
          refine r_aload0 hR dX8_sick_35 ?_
          refine r_iload1 hR dX8_sick_36 ?_
          refine r_iload2 hR dX8_sick_37 ?_
          refine r_cv2u hR kv_X8_59 (by decide) (t_X8_ails h w2 (by omega) (by omega)) (by first | decide | assumption | (simp only [gcnt_4, gcnt_1, gcnt_2, gcnt_3, gcnt_12, gcnt_13, gcnt_16]; omega)) rfl rfl (Nat.le_of_ble_eq_true rfl) dX8_sick_38 ?_
          refine r_iload3 hR dX8_sick_41 ?_
          refine r_iret hR dX8_sick_42 ?_
          have e : oSick A (nI d) (nI v) = (nI (if (aS A 2).testBit d then 1 else 0), sS A (va_up (aS A) 2 (mkS (aS A 2) d v))) := by
            unfold oSick
            rw [if_pos (by simp (disch := omega) only [okI, okT, nI_toInt]; omega)]
            simp (disch := omega) only [uN_nI]
          unfold Qm
          rw [e]
          exact ⟨rfl, mdlP_sea hc (seti_160 M _ _) rfl (rowP_up h (by omega)), keepC_row (seti_160 M _ _) rfl⟩
      · try simp (disch := omega) only [nI_ltI, nI_leI, nI_eq, bI_0, Decidable.not_not, lc_lt, lc_gt, lc_ge, lc_le, lc_eq, i64_toInt] at c14
        try simp (disch := omega) only [cv_lt, cv_le, cv_eq, nI_toInt, cv_0] at c14
        first
        | omega
        | refine r_aload0 hR dX8_sick_17 ?_
          refine r_ldc hR ct_X8_41 dX8_sick_18 ?_
          refine r_cv1v hR kv_X8_43 (by decide) (t_X8_findsC (n := 0) (by decide) (by decide)) (by first | decide | assumption | (simp only [gcnt_4, gcnt_1, gcnt_2, gcnt_3, gcnt_12, gcnt_13, gcnt_16]; omega)) rfl rfl (Nat.le_of_ble_eq_true rfl) dX8_sick_20 ?_
          refine r_iret hR dX8_sick_23 ?_
          refine Qm_fnd hc (by decide) ?_
          unfold oSick
          dsimp only [okI, okT]
          (repeat' split) <;> first | rfl | omega

set_option maxHeartbeats 4000000 in
set_option maxRecDepth 100000 in
theorem t_X8_force {G : gG} {M : gM} {A : gA} {x : Int32} (hc : mdlP M A) (hw : wfA A) : Ct G mX8_force 1 [.ref (ad G 15 0), .int x] M (Qm M (oForce A x)) := by
  obtain ⟨hwf, hday, hwk, hk2, hl, hT, hsh⟩ := id hw
  obtain ⟨w0, w1, w2, w3, wr, wt⟩ := id hwf
  obtain ⟨h, hKp, hkk, hlp, htp, hshp, hfp⟩ := id hc
  refine Ct.of (by decide +kernel) (k := 0) (ls0 := [some (.ref (ad G 15 0)), some (.int x)]) rfl rfl (fun _ _ => trivial) ?_
  intro P hR
  refine r_iload1 hR dX8_force_0 ?_
  refine r_i2l hR dX8_force_1 ?_
  refine r_iconst hR (nI 0) (by decide) dX8_force_2 ?_
  refine r_bipush hR (nI 9) (by decide) dX8_force_3 ?_
  refine r_cs3v hR ks_X8_47 (by decide) (t_X8_in) (Nat.le_of_ble_eq_true rfl) dX8_force_5 ?_
  refine r_if_eq hR 20 dX8_force_8 (by decide) (fun c8 => ?_) (fun c8 => ?_)
  · try simp (disch := omega) only [nI_ltI, nI_leI, nI_eq, bI_0, Decidable.not_not, lc_lt, lc_gt, lc_ge, lc_le, lc_eq, i64_toInt] at c8
    try simp (disch := omega) only [cv_lt, cv_le, cv_eq, nI_toInt, cv_0] at c8
    first
    | omega
    | refine r_aload0 hR dX8_force_20 ?_
      refine r_ldc hR ct_X8_41 dX8_force_21 ?_
      refine r_cv1v hR kv_X8_43 (by decide) (t_X8_findsC (n := 0) (by decide) (by decide)) (by first | decide | assumption | (simp only [gcnt_4, gcnt_1, gcnt_2, gcnt_3, gcnt_12, gcnt_13, gcnt_16]; omega)) rfl rfl (Nat.le_of_ble_eq_true rfl) dX8_force_23 ?_
      refine r_iret hR dX8_force_26 ?_
      first
      | (have e : oForce A (nI d) = (nI (aS A 1), sS A (va_up (aS A) 1 d)) := by
           unfold oForce
           rw [if_pos (by simp (disch := omega) only [okI, okT, nI_toInt]; omega)]
           simp (disch := omega) only [uN_nI]
         unfold Qm
         rw [e]
         exact ⟨rfl, mdlP_sea hc (seti_160 M _ _) rfl (rowP_up h (by omega)), keepC_row (seti_160 M _ _) rfl⟩)
      | (refine Qm_fnd hc (by decide) ?_
         unfold oForce
         dsimp only [okI, okT]
         (repeat' split) <;> first | rfl | omega)
  · try simp (disch := omega) only [nI_ltI, nI_leI, nI_eq, bI_0, Decidable.not_not, lc_lt, lc_gt, lc_ge, lc_le, lc_eq, i64_toInt] at c8
    try simp (disch := omega) only [cv_lt, cv_le, cv_eq, nI_toInt, cv_0] at c8
    first
    | omega
    | obtain ⟨d, hd, rfl⟩ := of_in (x := x) (N := 9) (by omega)
      refine r_aload0 hR dX8_force_11 ?_
      refine r_iconst hR (nI 1) (by decide) dX8_force_12 ?_
      refine r_iload1 hR dX8_force_13 ?_
      refine r_cv2v hR kv_X8_51 (by decide) (t_X8_becomes (by omega)) (by first | decide | assumption | (simp only [gcnt_4, gcnt_1, gcnt_2, gcnt_3, gcnt_12, gcnt_13, gcnt_16]; omega)) rfl rfl (Nat.le_of_ble_eq_true rfl) dX8_force_14 ?_
      rw [h 1 (by omega)]
      refine r_goto hR 26 dX8_force_17 (by decide) ?_
      refine r_iret hR dX8_force_26 ?_
      first
      | (have e : oForce A (nI d) = (nI (aS A 1), sS A (va_up (aS A) 1 d)) := by
           unfold oForce
           rw [if_pos (by simp (disch := omega) only [okI, okT, nI_toInt]; omega)]
           simp (disch := omega) only [uN_nI]
         unfold Qm
         rw [e]
         exact ⟨rfl, mdlP_sea hc (seti_160 M _ _) rfl (rowP_up h (by omega)), keepC_row (seti_160 M _ _) rfl⟩)
      | (refine Qm_fnd hc (by decide) ?_
         unfold oForce
         dsimp only [okI, okT]
         (repeat' split) <;> first | rfl | omega)

set_option maxHeartbeats 4000000 in
set_option maxRecDepth 100000 in
theorem t_X8_blows {G : gG} {M : gM} {A : gA} {x : Int32} (hc : mdlP M A) (hw : wfA A) : Ct G mX8_blows 1 [.ref (ad G 15 0), .int x] M (Qm M (oBlows A x)) := by
  obtain ⟨hwf, hday, hwk, hk2, hl, hT, hsh⟩ := id hw
  obtain ⟨w0, w1, w2, w3, wr, wt⟩ := id hwf
  obtain ⟨h, hKp, hkk, hlp, htp, hshp, hfp⟩ := id hc
  refine Ct.of (by decide +kernel) (k := 0) (ls0 := [some (.ref (ad G 15 0)), some (.int x)]) rfl rfl (fun _ _ => trivial) ?_
  intro P hR
  refine r_iload1 hR dX8_blows_0 ?_
  refine r_i2l hR dX8_blows_1 ?_
  refine r_iconst hR (nI 0) (by decide) dX8_blows_2 ?_
  refine r_sipush hR (nI 9999) (by decide) dX8_blows_3 ?_
  refine r_cs3v hR ks_X8_47 (by decide) (t_X8_in) (Nat.le_of_ble_eq_true rfl) dX8_blows_6 ?_
  refine r_if_eq hR 20 dX8_blows_9 (by decide) (fun c9 => ?_) (fun c9 => ?_)
  · try simp (disch := omega) only [nI_ltI, nI_leI, nI_eq, bI_0, Decidable.not_not, lc_lt, lc_gt, lc_ge, lc_le, lc_eq, i64_toInt] at c9
    try simp (disch := omega) only [cv_lt, cv_le, cv_eq, nI_toInt, cv_0] at c9
    first
    | omega
    | refine r_aload0 hR dX8_blows_20 ?_
      refine r_ldc hR ct_X8_41 dX8_blows_21 ?_
      refine r_cv1v hR kv_X8_43 (by decide) (t_X8_findsC (n := 0) (by decide) (by decide)) (by first | decide | assumption | (simp only [gcnt_4, gcnt_1, gcnt_2, gcnt_3, gcnt_12, gcnt_13, gcnt_16]; omega)) rfl rfl (Nat.le_of_ble_eq_true rfl) dX8_blows_23 ?_
      refine r_iret hR dX8_blows_26 ?_
      first
      | (have e : oBlows A (nI d) = (nI (blow (aS A) d), A) := by
           unfold oBlows
           rw [if_pos (by simp (disch := omega) only [okI, okT, nI_toInt]; omega)]
           simp (disch := omega) only [uN_nI]
         unfold Qm
         rw [e]
         exact ⟨rfl, hc, keepC.rf M⟩)
      | (refine Qm_fnd hc (by decide) ?_
         unfold oBlows
         dsimp only [okI, okT]
         (repeat' split) <;> first | rfl | omega)
  · try simp (disch := omega) only [nI_ltI, nI_leI, nI_eq, bI_0, Decidable.not_not, lc_lt, lc_gt, lc_ge, lc_le, lc_eq, i64_toInt] at c9
    try simp (disch := omega) only [cv_lt, cv_le, cv_eq, nI_toInt, cv_0] at c9
    first
    | omega
    | obtain ⟨d, hd, rfl⟩ := of_in (x := x) (N := 9999) (by omega)
      refine r_aload0 hR dX8_blows_12 ?_
      refine r_iload1 hR dX8_blows_13 ?_
      refine r_cv1v hR kv_X8_63 (by decide) (t_X8_blowing h hwf (by omega)) (by first | decide | assumption | (simp only [gcnt_4, gcnt_1, gcnt_2, gcnt_3, gcnt_12, gcnt_13, gcnt_16]; omega)) rfl rfl (Nat.le_of_ble_eq_true rfl) dX8_blows_14 ?_
      refine r_goto hR 26 dX8_blows_17 (by decide) ?_
      refine r_iret hR dX8_blows_26 ?_
      first
      | (have e : oBlows A (nI d) = (nI (blow (aS A) d), A) := by
           unfold oBlows
           rw [if_pos (by simp (disch := omega) only [okI, okT, nI_toInt]; omega)]
           simp (disch := omega) only [uN_nI]
         unfold Qm
         rw [e]
         exact ⟨rfl, hc, keepC.rf M⟩)
      | (refine Qm_fnd hc (by decide) ?_
         unfold oBlows
         dsimp only [okI, okT]
         (repeat' split) <;> first | rfl | omega)

set_option maxHeartbeats 4000000 in
set_option maxRecDepth 100000 in
theorem t_X8_lee {G : gG} {M : gM} {A : gA} {x y : Int32} (hc : mdlP M A) (hw : wfA A) : Ct G mX8_lee 2 [.ref (ad G 15 0), .int x, .int y] M (Qm M (oLee A x y)) := by
  obtain ⟨hwf, hday, hwk, hk2, hl, hT, hsh⟩ := id hw
  obtain ⟨w0, w1, w2, w3, wr, wt⟩ := id hwf
  obtain ⟨h, hKp, hkk, hlp, htp, hshp, hfp⟩ := id hc
  refine Ct.of (by decide +kernel) (k := 0) (ls0 := [some (.ref (ad G 15 0)), some (.int x), some (.int y)]) rfl rfl (fun _ _ => trivial) ?_
  intro P hR
  refine r_iload1 hR dX8_lee_0 ?_
  refine r_cs1v hR ks_X8_66 (by decide) (t_X8_isCell) (Nat.le_of_ble_eq_true rfl) dX8_lee_1 ?_
  refine r_if_eq hR 26 dX8_lee_4 (by decide) (fun c4 => ?_) (fun c4 => ?_)
  · try simp (disch := omega) only [nI_ltI, nI_leI, nI_eq, bI_0, Decidable.not_not, lc_lt, lc_gt, lc_ge, lc_le, lc_eq, i64_toInt] at c4
    try simp (disch := omega) only [cv_lt, cv_le, cv_eq, nI_toInt, cv_0] at c4
    first
    | omega
    | refine r_aload0 hR dX8_lee_26 ?_
      refine r_ldc hR ct_X8_41 dX8_lee_27 ?_
      refine r_cv1v hR kv_X8_43 (by decide) (t_X8_findsC (n := 0) (by decide) (by decide)) (by first | decide | assumption | (simp only [gcnt_4, gcnt_1, gcnt_2, gcnt_3, gcnt_12, gcnt_13, gcnt_16]; omega)) rfl rfl (Nat.le_of_ble_eq_true rfl) dX8_lee_29 ?_
      refine r_iret hR dX8_lee_32 ?_
      first
      | (have e : oLee A (nI ce) (nI w) = if bto ce w < 36 then (nI (bto ce w), A) else fnd A 3 := by
           unfold oLee
           rw [if_pos (by simp (disch := omega) only [okI, nI_toInt]; omega)]
           simp (disch := omega) only [uN_nI]
         rw [e]
         have hb := (bto_t ce (by omega) w (by omega)).1
         by_cases hb6 : bto ce w < 36
         · have hz : ¬ (nI (bto ce w)).toInt < 0 := by rw [nI_toInt (by omega)]; omega
           simp only [if_pos hb6, if_neg hz]
           exact ⟨rfl, hc, keepC.rf M⟩
         · simp only [if_neg hb6, if_pos (show (-1 : Int32).toInt < 0 by decide)]
           exact Qm_fnd hc (by decide) rfl)
      | (refine Qm_fnd hc (by decide) ?_
         unfold oLee
         dsimp only [okI, okT]
         (repeat' split) <;> first | rfl | omega)
  · try simp (disch := omega) only [nI_ltI, nI_leI, nI_eq, bI_0, Decidable.not_not, lc_lt, lc_gt, lc_ge, lc_le, lc_eq, i64_toInt] at c4
    try simp (disch := omega) only [cv_lt, cv_le, cv_eq, nI_toInt, cv_0] at c4
    first
    | omega
    | refine r_iload2 hR dX8_lee_7 ?_
      refine r_cs1v hR ks_X8_55 (by decide) (t_X8_isWind) (Nat.le_of_ble_eq_true rfl) dX8_lee_8 ?_
      refine r_if_eq hR 26 dX8_lee_11 (by decide) (fun c11 => ?_) (fun c11 => ?_)
      · try simp (disch := omega) only [nI_ltI, nI_leI, nI_eq, bI_0, Decidable.not_not, lc_lt, lc_gt, lc_ge, lc_le, lc_eq, i64_toInt] at c11
        try simp (disch := omega) only [cv_lt, cv_le, cv_eq, nI_toInt, cv_0] at c11
        first
        | omega
        | refine r_aload0 hR dX8_lee_26 ?_
          refine r_ldc hR ct_X8_41 dX8_lee_27 ?_
          refine r_cv1v hR kv_X8_43 (by decide) (t_X8_findsC (n := 0) (by decide) (by decide)) (by first | decide | assumption | (simp only [gcnt_4, gcnt_1, gcnt_2, gcnt_3, gcnt_12, gcnt_13, gcnt_16]; omega)) rfl rfl (Nat.le_of_ble_eq_true rfl) dX8_lee_29 ?_
          refine r_iret hR dX8_lee_32 ?_
          first
          | (have e : oLee A (nI ce) (nI w) = if bto ce w < 36 then (nI (bto ce w), A) else fnd A 3 := by
               unfold oLee
               rw [if_pos (by simp (disch := omega) only [okI, nI_toInt]; omega)]
               simp (disch := omega) only [uN_nI]
             rw [e]
             have hb := (bto_t ce (by omega) w (by omega)).1
             by_cases hb6 : bto ce w < 36
             · have hz : ¬ (nI (bto ce w)).toInt < 0 := by rw [nI_toInt (by omega)]; omega
               simp only [if_pos hb6, if_neg hz]
               exact ⟨rfl, hc, keepC.rf M⟩
             · simp only [if_neg hb6, if_pos (show (-1 : Int32).toInt < 0 by decide)]
               exact Qm_fnd hc (by decide) rfl)
          | (refine Qm_fnd hc (by decide) ?_
             unfold oLee
             dsimp only [okI, okT]
             (repeat' split) <;> first | rfl | omega)
      · try simp (disch := omega) only [nI_ltI, nI_leI, nI_eq, bI_0, Decidable.not_not, lc_lt, lc_gt, lc_ge, lc_le, lc_eq, i64_toInt] at c11
        try simp (disch := omega) only [cv_lt, cv_le, cv_eq, nI_toInt, cv_0] at c11
        first
        | omega
        | obtain ⟨ce, hce, rfl⟩ := of_in (x := x) (N := 35) (by omega)
          obtain ⟨w, hw, rfl⟩ := of_in (x := y) (N := 7) (by omega)
          refine r_aload0 hR dX8_lee_14 ?_
          refine r_iload1 hR dX8_lee_15 ?_
          refine r_iload2 hR dX8_lee_16 ?_
          refine r_cs2v hR ks_X8_69 (by decide) (t_X8_blownTo (by omega) (by omega)) (Nat.le_of_ble_eq_true rfl) dX8_lee_17 ?_
          refine r_cv1v hR kv_X8_72 (by decide) (t_X8_orNone) (by first | decide | assumption | (simp only [gcnt_4, gcnt_1, gcnt_2, gcnt_3, gcnt_12, gcnt_13, gcnt_16]; omega)) rfl rfl (Nat.le_of_ble_eq_true rfl) dX8_lee_20 ?_
          refine r_goto hR 32 dX8_lee_23 (by decide) ?_
          refine r_iret hR dX8_lee_32 ?_
          first
          | (have e : oLee A (nI ce) (nI w) = if bto ce w < 36 then (nI (bto ce w), A) else fnd A 3 := by
               unfold oLee
               rw [if_pos (by simp (disch := omega) only [okI, nI_toInt]; omega)]
               simp (disch := omega) only [uN_nI]
             rw [e]
             have hb := (bto_t ce (by omega) w (by omega)).1
             by_cases hb6 : bto ce w < 36
             · have hz : ¬ (nI (bto ce w)).toInt < 0 := by rw [nI_toInt (by omega)]; omega
               simp only [if_pos hb6, if_neg hz]
               exact ⟨rfl, hc, keepC.rf M⟩
             · simp only [if_neg hb6, if_pos (show (-1 : Int32).toInt < 0 by decide)]
               exact Qm_fnd hc (by decide) rfl)
          | (refine Qm_fnd hc (by decide) ?_
             unfold oLee
             dsimp only [okI, okT]
             (repeat' split) <;> first | rfl | omega)

theorem adM_160 (M : gM) (n k c f : Nat) : ∀ r i j, ¬ (r = 16 ∧ i = 0) → (adM M n k c f).1 r i j = M.1 r i j := fun r i j h => by
  rw [seti_160 _ _ _ r i j h, seti_160 _ _ _ r i j h, seti_160 _ _ _ r i j h, seti_160 _ _ _ r i j h, seti_160 _ _ _ r i j h]
set_option maxHeartbeats 4000000 in
set_option maxRecDepth 100000 in
theorem t_X8_thing {G : gG} {M : gM} {A : gA} {x y : Int32} (hc : mdlP M A) (hw : wfA A) : Ct G mX8_thing 2 [.ref (ad G 15 0), .int x, .int y] M (Qm M (oThing A x y)) := by
  obtain ⟨hwf, hday, hwk, hk2, hl, hT, hsh⟩ := id hw
  obtain ⟨w0, w1, w2, w3, wr, wt⟩ := id hwf
  obtain ⟨h, hKp, hkk, hlp, htp, hshp, hfp⟩ := id hc
  refine Ct.of (by decide +kernel) (k := 0) (ls0 := [some (.ref (ad G 15 0)), some (.int x), some (.int y)]) rfl rfl (fun _ _ => trivial) ?_
  intro P hR
  refine r_iload1 hR dX8_thing_0 ?_
  refine r_i2l hR dX8_thing_1 ?_
  refine r_iconst hR (nI 0) (by decide) dX8_thing_2 ?_
  refine r_iconst hR (nI 5) (by decide) dX8_thing_3 ?_
  refine r_cs3v hR ks_X8_47 (by decide) (t_X8_in) (Nat.le_of_ble_eq_true rfl) dX8_thing_4 ?_
  refine r_if_eq hR 17 dX8_thing_7 (by decide) (fun c7 => ?_) (fun c7 => ?_)
  · try simp (disch := omega) only [nI_ltI, nI_leI, nI_eq, bI_0, Decidable.not_not, lc_lt, lc_gt, lc_ge, lc_le, lc_eq, i64_toInt] at c7
    try simp (disch := omega) only [cv_lt, cv_le, cv_eq, nI_toInt, cv_0] at c7
    first
    | omega
    | refine r_aload0 hR dX8_thing_17 ?_
      refine r_ldc hR ct_X8_41 dX8_thing_18 ?_
      refine r_cv1v hR kv_X8_43 (by decide) (t_X8_findsC (n := 0) (by decide) (by decide)) (by first | decide | assumption | (simp only [gcnt_4, gcnt_1, gcnt_2, gcnt_3, gcnt_12, gcnt_13, gcnt_16]; omega)) rfl rfl (Nat.le_of_ble_eq_true rfl) dX8_thing_20 ?_
      refine r_iret hR dX8_thing_23 ?_
      refine Qm_fnd hc (by decide) ?_
      unfold oThing
      dsimp only [okI, okT]
      (repeat' split) <;> first | rfl | omega
  · try simp (disch := omega) only [nI_ltI, nI_leI, nI_eq, bI_0, Decidable.not_not, lc_lt, lc_gt, lc_ge, lc_le, lc_eq, i64_toInt] at c7
    try simp (disch := omega) only [cv_lt, cv_le, cv_eq, nI_toInt, cv_0] at c7
    first
    | omega
    | refine r_iload2 hR dX8_thing_10 ?_
      refine r_cs1v hR ks_X8_66 (by decide) (t_X8_isCell) (Nat.le_of_ble_eq_true rfl) dX8_thing_11 ?_
      refine r_if_ne hR 24 dX8_thing_14 (by decide) (fun c14 => ?_) (fun c14 => ?_)
      · try simp (disch := omega) only [nI_ltI, nI_leI, nI_eq, bI_0, Decidable.not_not, lc_lt, lc_gt, lc_ge, lc_le, lc_eq, i64_toInt] at c14
        try simp (disch := omega) only [cv_lt, cv_le, cv_eq, nI_toInt, cv_0] at c14
        first
        | omega
        | obtain ⟨k, hk, rfl⟩ := of_in (x := x) (N := 5) (by omega)
          obtain ⟨ce, hce, rfl⟩ := of_in (x := y) (N := 35) (by omega)
          have e : oThing A (nI k) (nI ce) = if aS A 3 = 8 then fnd A 1 else (nI (aS A 3), sS A (addS (aS A) k ce 0)) := by
            unfold oThing
            rw [if_pos (by simp (disch := omega) only [okI, nI_toInt]; omega)]
            simp (disch := omega) only [uN_nI]
          refine r_aload0 hR dX8_thing_24 ?_
          refine r_get hR (by first | decide | assumption | (simp only [gcnt_4, gcnt_1, gcnt_2, gcnt_3, gcnt_12, gcnt_13, gcnt_16]; omega)) fl_X8_9 rfl rfl dX8_thing_25 ?_
          refine r_iconst hR (nI 3) (by decide) dX8_thing_28 ?_
          refine r_iald hR (by first | decide | assumption | (simp only [gcnt_4, gcnt_1, gcnt_2, gcnt_3, gcnt_12, gcnt_13, gcnt_16]; omega)) rfl rfl (by omega) (by decide) dX8_thing_29 ?_
          rw [h 3 (by omega)]
          refine r_bipush hR (nI 8) (by decide) dX8_thing_30 ?_
          refine r_icmp_ne hR 44 dX8_thing_32 (by decide) (fun c32 => ?_) (fun c32 => ?_)
          · try simp (disch := omega) only [nI_ltI, nI_leI, nI_eq, bI_0, Decidable.not_not, lc_lt, lc_gt, lc_ge, lc_le, lc_eq, i64_toInt] at c32
            try simp (disch := omega) only [cv_lt, cv_le, cv_eq, nI_toInt, cv_0] at c32
            first
            | omega
            | refine r_aload0 hR dX8_thing_44 ?_
              refine r_iload1 hR dX8_thing_45 ?_
              refine r_iload2 hR dX8_thing_46 ?_
              refine r_iconst hR (nI 0) (by decide) dX8_thing_47 ?_
              refine r_cv3v hR kv_X8_94 (by decide) (t_X8_comesAt h (by omega)) (by first | decide | assumption | (simp only [gcnt_4, gcnt_1, gcnt_2, gcnt_3, gcnt_12, gcnt_13, gcnt_16]; omega)) rfl rfl (Nat.le_of_ble_eq_true rfl) dX8_thing_48 ?_
              refine r_iret hR dX8_thing_51 ?_
              first
              | (rw [e, if_pos (by omega)]
                 exact Qm_fnd hc (by decide) rfl)
              | (rw [e, if_neg (by omega)]
                 exact ⟨rfl, mdlP_sea hc (adM_160 M _ _ _ _) rfl (rowP_add h), keepC_row (adM_160 M _ _ _ _) rfl⟩)
          · try simp (disch := omega) only [nI_ltI, nI_leI, nI_eq, bI_0, Decidable.not_not, lc_lt, lc_gt, lc_ge, lc_le, lc_eq, i64_toInt] at c32
            try simp (disch := omega) only [cv_lt, cv_le, cv_eq, nI_toInt, cv_0] at c32
            first
            | omega
            | refine r_aload0 hR dX8_thing_35 ?_
              refine r_ldc hR ct_X8_93 dX8_thing_36 ?_
              refine r_cv1v hR kv_X8_43 (by decide) (t_X8_findsC (n := 1) (by decide) (by decide)) (by first | decide | assumption | (simp only [gcnt_4, gcnt_1, gcnt_2, gcnt_3, gcnt_12, gcnt_13, gcnt_16]; omega)) rfl rfl (Nat.le_of_ble_eq_true rfl) dX8_thing_38 ?_
              refine r_goto hR 51 dX8_thing_41 (by decide) ?_
              refine r_iret hR dX8_thing_51 ?_
              first
              | (rw [e, if_pos (by omega)]
                 exact Qm_fnd hc (by decide) rfl)
              | (rw [e, if_neg (by omega)]
                 exact ⟨rfl, mdlP_sea hc (adM_160 M _ _ _ _) rfl (rowP_add h), keepC_row (adM_160 M _ _ _ _) rfl⟩)
      · try simp (disch := omega) only [nI_ltI, nI_leI, nI_eq, bI_0, Decidable.not_not, lc_lt, lc_gt, lc_ge, lc_le, lc_eq, i64_toInt] at c14
        try simp (disch := omega) only [cv_lt, cv_le, cv_eq, nI_toInt, cv_0] at c14
        first
        | omega
        | refine r_aload0 hR dX8_thing_17 ?_
          refine r_ldc hR ct_X8_41 dX8_thing_18 ?_
          refine r_cv1v hR kv_X8_43 (by decide) (t_X8_findsC (n := 0) (by decide) (by decide)) (by first | decide | assumption | (simp only [gcnt_4, gcnt_1, gcnt_2, gcnt_3, gcnt_12, gcnt_13, gcnt_16]; omega)) rfl rfl (Nat.le_of_ble_eq_true rfl) dX8_thing_20 ?_
          refine r_iret hR dX8_thing_23 ?_
          refine Qm_fnd hc (by decide) ?_
          unfold oThing
          dsimp only [okI, okT]
          (repeat' split) <;> first | rfl | omega

set_option maxHeartbeats 4000000 in
set_option maxRecDepth 100000 in
theorem t_X8_of {G : gG} {M : gM} {A : gA} {x y : Int32} (hc : mdlP M A) (hw : wfA A) : Ct G mX8_of 4 [.ref (ad G 15 0), .int x, .int y] M (Qm M (oOf A x y)) := by
  obtain ⟨hwf, hday, hwk, hk2, hl, hT, hsh⟩ := id hw
  obtain ⟨w0, w1, w2, w3, wr, wt⟩ := id hwf
  obtain ⟨h, hKp, hkk, hlp, htp, hshp, hfp⟩ := id hc
  refine Ct.of (by decide +kernel) (k := 1) (ls0 := [some (.ref (ad G 15 0)), some (.int x), some (.int y), none]) rfl rfl (fun _ _ => trivial) ?_
  intro P hR
  refine r_aload0 hR dX8_of_0 ?_
  refine r_iload1 hR dX8_of_1 ?_
  refine r_cv1v hR kv_X8_97 (by decide) (t_X8_isThing h w3) (by first | decide | assumption | (simp only [gcnt_4, gcnt_1, gcnt_2, gcnt_3, gcnt_12, gcnt_13, gcnt_16]; omega)) rfl rfl (Nat.le_of_ble_eq_true rfl) dX8_of_2 ?_
  refine r_if_eq hR 18 dX8_of_5 (by decide) (fun c5 => ?_) (fun c5 => ?_)
  · try simp (disch := omega) only [nI_ltI, nI_leI, nI_eq, bI_0, Decidable.not_not, lc_lt, lc_gt, lc_ge, lc_le, lc_eq, i64_toInt] at c5
    try simp (disch := omega) only [cv_lt, cv_le, cv_eq, nI_toInt, cv_0] at c5
    first
    | omega
    | refine r_aload0 hR dX8_of_18 ?_
      refine r_ldc hR ct_X8_41 dX8_of_19 ?_
      refine r_cv1v hR kv_X8_43 (by decide) (t_X8_findsC (n := 0) (by decide) (by decide)) (by first | decide | assumption | (simp only [gcnt_4, gcnt_1, gcnt_2, gcnt_3, gcnt_12, gcnt_13, gcnt_16]; omega)) rfl rfl (Nat.le_of_ble_eq_true rfl) dX8_of_21 ?_
      refine r_iret hR dX8_of_24 ?_
      refine Qm_fnd hc (by decide) ?_
      unfold oOf
      dsimp only [okI, okT]
      (repeat' split) <;> first | rfl | omega
  · try simp (disch := omega) only [nI_ltI, nI_leI, nI_eq, bI_0, Decidable.not_not, lc_lt, lc_gt, lc_ge, lc_le, lc_eq, i64_toInt] at c5
    try simp (disch := omega) only [cv_lt, cv_le, cv_eq, nI_toInt, cv_0] at c5
    first
    | omega
    | refine r_iload2 hR dX8_of_8 ?_
      refine r_i2l hR dX8_of_9 ?_
      refine r_iconst hR (nI 0) (by decide) dX8_of_10 ?_
      refine r_iconst hR (nI 5) (by decide) dX8_of_11 ?_
      refine r_cs3v hR ks_X8_47 (by decide) (t_X8_in) (Nat.le_of_ble_eq_true rfl) dX8_of_12 ?_
      refine r_if_ne hR 25 dX8_of_15 (by decide) (fun c15 => ?_) (fun c15 => ?_)
      · try simp (disch := omega) only [nI_ltI, nI_leI, nI_eq, bI_0, Decidable.not_not, lc_lt, lc_gt, lc_ge, lc_le, lc_eq, i64_toInt] at c15
        try simp (disch := omega) only [cv_lt, cv_le, cv_eq, nI_toInt, cv_0] at c15
        first
        | omega
        | obtain ⟨n, hn, rfl⟩ := of_in (x := y) (N := 5) (by omega)
          obtain ⟨t, ht0, rfl⟩ := of_in (x := x) (N := aS A 3 - 1) (by omega)
          have htt : t < aS A 3 := by rw [nI_toInt (by omega)] at c5; omega
          have e : oOf A (nI t) (nI n) = (nI (if n < 4 then thg (aS A) t n else if n = 4 then earN (thg (aS A) t 0) (thg (aS A) t 2) (aS A 1) (aS A 0) (blow (aS A) (aS A 0)) else if goN (thg (aS A) t 0) (thg (aS A) t 2) (aS A 1) (blow (aS A) (aS A 0)) then 1 else 0), A) := by
            unfold oOf
            rw [if_pos (by simp (disch := omega) only [okI, okT, nI_toInt]; omega)]
            simp (disch := omega) only [uN_nI]
          refine r_aload0 hR dX8_of_25 ?_
          refine r_aload0 hR dX8_of_26 ?_
          refine r_get hR (by first | decide | assumption | (simp only [gcnt_4, gcnt_1, gcnt_2, gcnt_3, gcnt_12, gcnt_13, gcnt_16]; omega)) fl_X8_9 rfl rfl dX8_of_27 ?_
          refine r_iconst hR (nI 0) (by decide) dX8_of_30 ?_
          refine r_iald hR (by first | decide | assumption | (simp only [gcnt_4, gcnt_1, gcnt_2, gcnt_3, gcnt_12, gcnt_13, gcnt_16]; omega)) rfl rfl (by omega) (by decide) dX8_of_31 ?_
          rw [h 0 (by omega)]
          refine r_cv1v hR kv_X8_63 (by decide) (t_X8_blowing h hwf (by omega)) (by first | decide | assumption | (simp only [gcnt_4, gcnt_1, gcnt_2, gcnt_3, gcnt_12, gcnt_13, gcnt_16]; omega)) rfl rfl (Nat.le_of_ble_eq_true rfl) dX8_of_32 ?_
          refine r_istore3 hR (fun _ h => by first | (cases h; rfl) | exact absurd h (by simp)) dX8_of_35 ?_
          refine r_iload2 hR dX8_of_36 ?_
          refine r_iconst hR (nI 4) (by decide) dX8_of_37 ?_
          refine r_icmp_ge hR 50 dX8_of_38 (by decide) (fun c38 => ?_) (fun c38 => ?_)
          · try simp (disch := omega) only [nI_ltI, nI_leI, nI_eq, bI_0, Decidable.not_not, lc_lt, lc_gt, lc_ge, lc_le, lc_eq, i64_toInt] at c38
            try simp (disch := omega) only [cv_lt, cv_le, cv_eq, nI_toInt, cv_0] at c38
            first
            | omega
            | refine r_iload2 hR dX8_of_50 ?_
              refine r_iconst hR (nI 4) (by decide) dX8_of_51 ?_
              refine r_icmp_ne hR 64 dX8_of_52 (by decide) (fun c52 => ?_) (fun c52 => ?_)
              · try simp (disch := omega) only [nI_ltI, nI_leI, nI_eq, bI_0, Decidable.not_not, lc_lt, lc_gt, lc_ge, lc_le, lc_eq, i64_toInt] at c52
                try simp (disch := omega) only [cv_lt, cv_le, cv_eq, nI_toInt, cv_0] at c52
                first
                | omega
                | refine r_aload0 hR dX8_of_64 ?_
                  refine r_iload1 hR dX8_of_65 ?_
                  refine r_iload3 hR dX8_of_66 ?_
                  refine r_cv2v hR kv_X8_85 (by decide) (t_X8_doesGo h hwf htt (by have := blow_le (S := aS A) (d := aS A 0) wr; omega)) (by first | decide | assumption | (simp only [gcnt_4, gcnt_1, gcnt_2, gcnt_3, gcnt_12, gcnt_13, gcnt_16]; omega)) rfl rfl (Nat.le_of_ble_eq_true rfl) dX8_of_67 ?_
                  refine r_if_eq hR 77 dX8_of_70 (by decide) (fun c70 => ?_) (fun c70 => ?_)
                  · try simp (disch := omega) only [nI_ltI, nI_leI, nI_eq, bI_0, Decidable.not_not, lc_lt, lc_gt, lc_ge, lc_le, lc_eq, i64_toInt] at c70
                    try simp (disch := omega) only [cv_lt, cv_le, cv_eq, nI_toInt, cv_0] at c70
                    first
                    | omega
                    | refine r_iconst hR (nI 0) (by decide) dX8_of_77 ?_
                      refine r_iret hR dX8_of_78 ?_
                      first
                      | (unfold Qm
                         rw [e]
                         refine ⟨congrArg (fun z => some (Value.int (nI z))) ?_, hc, keepC.rf M⟩
                         rw [if_pos (by omega)])
                      | (unfold Qm
                         rw [e]
                         refine ⟨congrArg (fun z => some (Value.int (nI z))) ?_, hc, keepC.rf M⟩
                         rw [if_neg (by omega), if_pos (by omega)])
                      | (unfold Qm
                         rw [e]
                         refine ⟨congrArg (fun z => some (Value.int (nI z))) ?_, hc, keepC.rf M⟩
                         rw [if_neg (by omega), if_neg (by omega), if_pos c70])
                      | (unfold Qm
                         rw [e]
                         refine ⟨congrArg (fun z => some (Value.int (nI z))) ?_, hc, keepC.rf M⟩
                         rw [if_neg (by omega), if_neg (by omega), if_neg c70])
                  · try simp (disch := omega) only [nI_ltI, nI_leI, nI_eq, bI_0, Decidable.not_not, lc_lt, lc_gt, lc_ge, lc_le, lc_eq, i64_toInt] at c70
                    try simp (disch := omega) only [cv_lt, cv_le, cv_eq, nI_toInt, cv_0] at c70
                    first
                    | omega
                    | refine r_iconst hR (nI 1) (by decide) dX8_of_73 ?_
                      refine r_goto hR 78 dX8_of_74 (by decide) ?_
                      refine r_iret hR dX8_of_78 ?_
                      first
                      | (unfold Qm
                         rw [e]
                         refine ⟨congrArg (fun z => some (Value.int (nI z))) ?_, hc, keepC.rf M⟩
                         rw [if_pos (by omega)])
                      | (unfold Qm
                         rw [e]
                         refine ⟨congrArg (fun z => some (Value.int (nI z))) ?_, hc, keepC.rf M⟩
                         rw [if_neg (by omega), if_pos (by omega)])
                      | (unfold Qm
                         rw [e]
                         refine ⟨congrArg (fun z => some (Value.int (nI z))) ?_, hc, keepC.rf M⟩
                         rw [if_neg (by omega), if_neg (by omega), if_pos c70])
                      | (unfold Qm
                         rw [e]
                         refine ⟨congrArg (fun z => some (Value.int (nI z))) ?_, hc, keepC.rf M⟩
                         rw [if_neg (by omega), if_neg (by omega), if_neg c70])
              · try simp (disch := omega) only [nI_ltI, nI_leI, nI_eq, bI_0, Decidable.not_not, lc_lt, lc_gt, lc_ge, lc_le, lc_eq, i64_toInt] at c52
                try simp (disch := omega) only [cv_lt, cv_le, cv_eq, nI_toInt, cv_0] at c52
                first
                | omega
                | refine r_aload0 hR dX8_of_55 ?_
                  refine r_iload1 hR dX8_of_56 ?_
                  refine r_iload3 hR dX8_of_57 ?_
                  refine r_cv2v hR kv_X8_100 (by decide) (t_X8_earns h hwf htt (by have := blow_le (S := aS A) (d := aS A 0) wr; omega)) (by first | decide | assumption | (simp only [gcnt_4, gcnt_1, gcnt_2, gcnt_3, gcnt_12, gcnt_13, gcnt_16]; omega)) rfl rfl (Nat.le_of_ble_eq_true rfl) dX8_of_58 ?_
                  refine r_goto hR 78 dX8_of_61 (by decide) ?_
                  refine r_iret hR dX8_of_78 ?_
                  first
                  | (unfold Qm
                     rw [e]
                     refine ⟨congrArg (fun z => some (Value.int (nI z))) ?_, hc, keepC.rf M⟩
                     rw [if_pos (by omega)])
                  | (unfold Qm
                     rw [e]
                     refine ⟨congrArg (fun z => some (Value.int (nI z))) ?_, hc, keepC.rf M⟩
                     rw [if_neg (by omega), if_pos (by omega)])
                  | (unfold Qm
                     rw [e]
                     refine ⟨congrArg (fun z => some (Value.int (nI z))) ?_, hc, keepC.rf M⟩
                     rw [if_neg (by omega), if_neg (by omega), if_pos c70])
                  | (unfold Qm
                     rw [e]
                     refine ⟨congrArg (fun z => some (Value.int (nI z))) ?_, hc, keepC.rf M⟩
                     rw [if_neg (by omega), if_neg (by omega), if_neg c70])
          · try simp (disch := omega) only [nI_ltI, nI_leI, nI_eq, bI_0, Decidable.not_not, lc_lt, lc_gt, lc_ge, lc_le, lc_eq, i64_toInt] at c38
            try simp (disch := omega) only [cv_lt, cv_le, cv_eq, nI_toInt, cv_0] at c38
            first
            | omega
            | refine r_aload0 hR dX8_of_41 ?_
              refine r_iload1 hR dX8_of_42 ?_
              refine r_iload2 hR dX8_of_43 ?_
              refine r_cv2v hR kv_X8_75 (by decide) (t_X8_it h htt (by omega) w3) (by first | decide | assumption | (simp only [gcnt_4, gcnt_1, gcnt_2, gcnt_3, gcnt_12, gcnt_13, gcnt_16]; omega)) rfl rfl (Nat.le_of_ble_eq_true rfl) dX8_of_44 ?_
              refine r_goto hR 78 dX8_of_47 (by decide) ?_
              refine r_iret hR dX8_of_78 ?_
              first
              | (unfold Qm
                 rw [e]
                 refine ⟨congrArg (fun z => some (Value.int (nI z))) ?_, hc, keepC.rf M⟩
                 rw [if_pos (by omega)])
              | (unfold Qm
                 rw [e]
                 refine ⟨congrArg (fun z => some (Value.int (nI z))) ?_, hc, keepC.rf M⟩
                 rw [if_neg (by omega), if_pos (by omega)])
              | (unfold Qm
                 rw [e]
                 refine ⟨congrArg (fun z => some (Value.int (nI z))) ?_, hc, keepC.rf M⟩
                 rw [if_neg (by omega), if_neg (by omega), if_pos c70])
              | (unfold Qm
                 rw [e]
                 refine ⟨congrArg (fun z => some (Value.int (nI z))) ?_, hc, keepC.rf M⟩
                 rw [if_neg (by omega), if_neg (by omega), if_neg c70])
      · try simp (disch := omega) only [nI_ltI, nI_leI, nI_eq, bI_0, Decidable.not_not, lc_lt, lc_gt, lc_ge, lc_le, lc_eq, i64_toInt] at c15
        try simp (disch := omega) only [cv_lt, cv_le, cv_eq, nI_toInt, cv_0] at c15
        first
        | omega
        | refine r_aload0 hR dX8_of_18 ?_
          refine r_ldc hR ct_X8_41 dX8_of_19 ?_
          refine r_cv1v hR kv_X8_43 (by decide) (t_X8_findsC (n := 0) (by decide) (by decide)) (by first | decide | assumption | (simp only [gcnt_4, gcnt_1, gcnt_2, gcnt_3, gcnt_12, gcnt_13, gcnt_16]; omega)) rfl rfl (Nat.le_of_ble_eq_true rfl) dX8_of_21 ?_
          refine r_iret hR dX8_of_24 ?_
          refine Qm_fnd hc (by decide) ?_
          unfold oOf
          dsimp only [okI, okT]
          (repeat' split) <;> first | rfl | omega

set_option maxHeartbeats 4000000 in
set_option maxRecDepth 100000 in
theorem t_X8_set {G : gG} {M : gM} {A : gA} {x y z : Int32} (hc : mdlP M A) (hw : wfA A) : Ct G mX8_set 2 [.ref (ad G 15 0), .int x, .int y, .int z] M (Qm M (oSet A x y z)) := by
  obtain ⟨hwf, hday, hwk, hk2, hl, hT, hsh⟩ := id hw
  obtain ⟨w0, w1, w2, w3, wr, wt⟩ := id hwf
  obtain ⟨h, hKp, hkk, hlp, htp, hshp, hfp⟩ := id hc
  refine Ct.of (by decide +kernel) (k := 1) (ls0 := [some (.ref (ad G 15 0)), some (.int x), some (.int y), some (.int z), none]) rfl rfl (fun _ _ => trivial) ?_
  intro P hR
  have hm1 : y.toInt = 1 → mostN (uN y) = 35 := fun q => by unfold mostN uN; rw [q]; rfl
  have hm2 : y.toInt = 2 → mostN (uN y) = 7 := fun q => by unfold mostN uN; rw [q]; rfl
  have hm3 : y.toInt = 3 → mostN (uN y) = 99999 := fun q => by unfold mostN uN; rw [q]; rfl
  have J54 : P 54 [some (.ref (ad G 15 0)), some (.int x), some (.int y), some (.int z), none] [.int (bI ((0 ≤ x.toInt ∧ x.toInt < aS A 3) ∧ (1 ≤ y.toInt ∧ y.toInt ≤ 3) ∧ (0 ≤ z.toInt ∧ z.toInt ≤ mostN (uN y))))] M := by
    refine r_istore4 hR (fun _ h => by first | (cases h; rfl) | exact absurd h (by simp)) dX8_set_54 ?_
    refine r_iload4 hR dX8_set_56 ?_
    refine r_if_eq hR 77 dX8_set_58 (by decide) (fun c58 => ?_) (fun c58 => ?_)
    · try simp (disch := omega) only [nI_ltI, nI_leI, nI_eq, bI_0, Decidable.not_not, lc_lt, lc_gt, lc_ge, lc_le, lc_eq, i64_toInt] at c58
      try simp (disch := omega) only [cv_lt, cv_le, cv_eq, nI_toInt, cv_0] at c58
      first
      | omega
      | refine r_aload0 hR dX8_set_77 ?_
        refine r_ldc hR ct_X8_41 dX8_set_78 ?_
        refine r_cv1v hR kv_X8_43 (by decide) (t_X8_findsC (n := 0) (by decide) (by decide)) (by first | decide | assumption | (simp only [gcnt_4, gcnt_1, gcnt_2, gcnt_3, gcnt_12, gcnt_13, gcnt_16]; omega)) rfl rfl (Nat.le_of_ble_eq_true rfl) dX8_set_80 ?_
        refine r_iret hR dX8_set_83 ?_
        first
        | (unfold Qm
           rw [e]
           exact ⟨rfl, mdlP_sea hc (seti_160 M _ _) rfl (rowP_up h (by omega)), keepC_row (seti_160 M _ _) rfl⟩)
        | (refine Qm_fnd hc (by decide) ?_
           exact if_neg c58)
    · try simp (disch := omega) only [nI_ltI, nI_leI, nI_eq, bI_0, Decidable.not_not, lc_lt, lc_gt, lc_ge, lc_le, lc_eq, i64_toInt] at c58
      try simp (disch := omega) only [cv_lt, cv_le, cv_eq, nI_toInt, cv_0] at c58
      first
      | omega
      | have e : oSet A x y z = (nI (thg (aS A) (uN x) (uN y)), sS A (va_up (aS A) (11 + 4 * uN x + uN y) (uN z))) := if_pos c58
        obtain ⟨⟨a1, a2⟩, ⟨a3, a4⟩, a5, a6⟩ := c58
        have a7 : mostN (uN y) ≤ 99999 := by unfold mostN; (repeat' split) <;> omega
        obtain ⟨t, ht0, rfl⟩ := of_in (x := x) (N := aS A 3 - 1) (by omega)
        obtain ⟨n, hn, rfl⟩ := of_in (x := y) (N := 3) (by omega)
        obtain ⟨v, hv, rfl⟩ := of_in (x := z) (N := 99999) (by omega)
        rw [nI_toInt (by omega)] at a2 a3
        rw [uN_nI (by omega), uN_nI (by omega), uN_nI (by omega)] at e
        refine r_aload0 hR dX8_set_61 ?_
        refine r_bipush hR (nI 11) (by decide) dX8_set_62 ?_
        refine r_iconst hR (nI 4) (by decide) dX8_set_64 ?_
        refine r_iload1 hR dX8_set_65 ?_
        refine r_imul hR dX8_set_66 ?_
        try rw [pk_mul]
        refine r_iadd hR dX8_set_67 ?_
        try rw [nI_add]
        refine r_iload2 hR dX8_set_68 ?_
        refine r_iadd hR dX8_set_69 ?_
        try rw [nI_add]
        refine r_iload3 hR dX8_set_70 ?_
        refine r_cv2v hR kv_X8_51 (by decide) (t_X8_becomes (by omega)) (by first | decide | assumption | (simp only [gcnt_4, gcnt_1, gcnt_2, gcnt_3, gcnt_12, gcnt_13, gcnt_16]; omega)) rfl rfl (Nat.le_of_ble_eq_true rfl) dX8_set_71 ?_
        rw [h _ (by omega)]
        refine r_goto hR 83 dX8_set_74 (by decide) ?_
        refine r_iret hR dX8_set_83 ?_
        first
        | (unfold Qm
           rw [e]
           exact ⟨rfl, mdlP_sea hc (seti_160 M _ _) rfl (rowP_up h (by omega)), keepC_row (seti_160 M _ _) rfl⟩)
        | (refine Qm_fnd hc (by decide) ?_
           exact if_neg c58)
  refine r_aload0 hR dX8_set_0 ?_
  refine r_iload1 hR dX8_set_1 ?_
  refine r_cv1v hR kv_X8_97 (by decide) (t_X8_isThing h w3) (by first | decide | assumption | (simp only [gcnt_4, gcnt_1, gcnt_2, gcnt_3, gcnt_12, gcnt_13, gcnt_16]; omega)) rfl rfl (Nat.le_of_ble_eq_true rfl) dX8_set_2 ?_
  refine r_if_eq hR 53 dX8_set_5 (by decide) (fun c5 => ?_) (fun c5 => ?_)
  · try simp (disch := omega) only [nI_ltI, nI_leI, nI_eq, bI_0, Decidable.not_not, lc_lt, lc_gt, lc_ge, lc_le, lc_eq, i64_toInt] at c5
    try simp (disch := omega) only [cv_lt, cv_le, cv_eq, nI_toInt, cv_0] at c5
    first
    | omega
    | refine r_iconst hR (nI 0) (by decide) dX8_set_53 ?_
      refine r_nm (bI ((0 ≤ x.toInt ∧ x.toInt < aS A 3) ∧ (1 ≤ y.toInt ∧ y.toInt ≤ 3) ∧ (0 ≤ z.toInt ∧ z.toInt ≤ mostN (uN y)))) ?_ J54
      first
      | exact (bI_t (by omega)).symm
      | exact (bI_f (by omega)).symm
  · try simp (disch := omega) only [nI_ltI, nI_leI, nI_eq, bI_0, Decidable.not_not, lc_lt, lc_gt, lc_ge, lc_le, lc_eq, i64_toInt] at c5
    try simp (disch := omega) only [cv_lt, cv_le, cv_eq, nI_toInt, cv_0] at c5
    first
    | omega
    | refine r_iload2 hR dX8_set_8 ?_
      refine r_i2l hR dX8_set_9 ?_
      refine r_iconst hR (nI 1) (by decide) dX8_set_10 ?_
      refine r_iconst hR (nI 3) (by decide) dX8_set_11 ?_
      refine r_cs3v hR ks_X8_47 (by decide) (t_X8_in) (Nat.le_of_ble_eq_true rfl) dX8_set_12 ?_
      refine r_if_eq hR 53 dX8_set_15 (by decide) (fun c15 => ?_) (fun c15 => ?_)
      · try simp (disch := omega) only [nI_ltI, nI_leI, nI_eq, bI_0, Decidable.not_not, lc_lt, lc_gt, lc_ge, lc_le, lc_eq, i64_toInt] at c15
        try simp (disch := omega) only [cv_lt, cv_le, cv_eq, nI_toInt, cv_0] at c15
        first
        | omega
        | refine r_iconst hR (nI 0) (by decide) dX8_set_53 ?_
          refine r_nm (bI ((0 ≤ x.toInt ∧ x.toInt < aS A 3) ∧ (1 ≤ y.toInt ∧ y.toInt ≤ 3) ∧ (0 ≤ z.toInt ∧ z.toInt ≤ mostN (uN y)))) ?_ J54
          first
          | exact (bI_t (by omega)).symm
          | exact (bI_f (by omega)).symm
      · try simp (disch := omega) only [nI_ltI, nI_leI, nI_eq, bI_0, Decidable.not_not, lc_lt, lc_gt, lc_ge, lc_le, lc_eq, i64_toInt] at c15
        try simp (disch := omega) only [cv_lt, cv_le, cv_eq, nI_toInt, cv_0] at c15
        first
        | omega
        | refine r_iload3 hR dX8_set_18 ?_
          refine r_i2l hR dX8_set_19 ?_
          refine r_iconst hR (nI 0) (by decide) dX8_set_20 ?_
          refine r_iload2 hR dX8_set_21 ?_
          refine r_iconst hR (nI 1) (by decide) dX8_set_22 ?_
          refine r_icmp_ne hR 31 dX8_set_23 (by decide) (fun c23 => ?_) (fun c23 => ?_)
          · try simp (disch := omega) only [nI_ltI, nI_leI, nI_eq, bI_0, Decidable.not_not, lc_lt, lc_gt, lc_ge, lc_le, lc_eq, i64_toInt] at c23
            try simp (disch := omega) only [cv_lt, cv_le, cv_eq, nI_toInt, cv_0] at c23
            first
            | omega
            | refine r_iload2 hR dX8_set_31 ?_
              refine r_iconst hR (nI 2) (by decide) dX8_set_32 ?_
              refine r_icmp_ne hR 41 dX8_set_33 (by decide) (fun c33 => ?_) (fun c33 => ?_)
              · try simp (disch := omega) only [nI_ltI, nI_leI, nI_eq, bI_0, Decidable.not_not, lc_lt, lc_gt, lc_ge, lc_le, lc_eq, i64_toInt] at c33
                try simp (disch := omega) only [cv_lt, cv_le, cv_eq, nI_toInt, cv_0] at c33
                first
                | omega
                | refine r_ldcN hR ct_X8_103 99999 (by decide) dX8_set_41 ?_
                  refine r_cs3v hR ks_X8_47 (by decide) (t_X8_in) (Nat.le_of_ble_eq_true rfl) dX8_set_43 ?_
                  refine r_if_eq hR 53 dX8_set_46 (by decide) (fun c46 => ?_) (fun c46 => ?_)
                  · try simp (disch := omega) only [nI_ltI, nI_leI, nI_eq, bI_0, Decidable.not_not, lc_lt, lc_gt, lc_ge, lc_le, lc_eq, i64_toInt] at c46
                    try simp (disch := omega) only [cv_lt, cv_le, cv_eq, nI_toInt, cv_0] at c46
                    first
                    | omega
                    | refine r_iconst hR (nI 0) (by decide) dX8_set_53 ?_
                      refine r_nm (bI ((0 ≤ x.toInt ∧ x.toInt < aS A 3) ∧ (1 ≤ y.toInt ∧ y.toInt ≤ 3) ∧ (0 ≤ z.toInt ∧ z.toInt ≤ mostN (uN y)))) ?_ J54
                      first
                      | exact (bI_t (by omega)).symm
                      | exact (bI_f (by omega)).symm
                  · try simp (disch := omega) only [nI_ltI, nI_leI, nI_eq, bI_0, Decidable.not_not, lc_lt, lc_gt, lc_ge, lc_le, lc_eq, i64_toInt] at c46
                    try simp (disch := omega) only [cv_lt, cv_le, cv_eq, nI_toInt, cv_0] at c46
                    first
                    | omega
                    | refine r_iconst hR (nI 1) (by decide) dX8_set_49 ?_
                      refine r_goto hR 54 dX8_set_50 (by decide) ?_
                      refine r_nm (bI ((0 ≤ x.toInt ∧ x.toInt < aS A 3) ∧ (1 ≤ y.toInt ∧ y.toInt ≤ 3) ∧ (0 ≤ z.toInt ∧ z.toInt ≤ mostN (uN y)))) ?_ J54
                      first
                      | exact (bI_t (by omega)).symm
                      | exact (bI_f (by omega)).symm
              · try simp (disch := omega) only [nI_ltI, nI_leI, nI_eq, bI_0, Decidable.not_not, lc_lt, lc_gt, lc_ge, lc_le, lc_eq, i64_toInt] at c33
                try simp (disch := omega) only [cv_lt, cv_le, cv_eq, nI_toInt, cv_0] at c33
                first
                | omega
                | refine r_bipush hR (nI 7) (by decide) dX8_set_36 ?_
                  refine r_goto hR 43 dX8_set_38 (by decide) ?_
                  refine r_cs3v hR ks_X8_47 (by decide) (t_X8_in) (Nat.le_of_ble_eq_true rfl) dX8_set_43 ?_
                  refine r_if_eq hR 53 dX8_set_46 (by decide) (fun c46 => ?_) (fun c46 => ?_)
                  · try simp (disch := omega) only [nI_ltI, nI_leI, nI_eq, bI_0, Decidable.not_not, lc_lt, lc_gt, lc_ge, lc_le, lc_eq, i64_toInt] at c46
                    try simp (disch := omega) only [cv_lt, cv_le, cv_eq, nI_toInt, cv_0] at c46
                    first
                    | omega
                    | refine r_iconst hR (nI 0) (by decide) dX8_set_53 ?_
                      refine r_nm (bI ((0 ≤ x.toInt ∧ x.toInt < aS A 3) ∧ (1 ≤ y.toInt ∧ y.toInt ≤ 3) ∧ (0 ≤ z.toInt ∧ z.toInt ≤ mostN (uN y)))) ?_ J54
                      first
                      | exact (bI_t (by omega)).symm
                      | exact (bI_f (by omega)).symm
                  · try simp (disch := omega) only [nI_ltI, nI_leI, nI_eq, bI_0, Decidable.not_not, lc_lt, lc_gt, lc_ge, lc_le, lc_eq, i64_toInt] at c46
                    try simp (disch := omega) only [cv_lt, cv_le, cv_eq, nI_toInt, cv_0] at c46
                    first
                    | omega
                    | refine r_iconst hR (nI 1) (by decide) dX8_set_49 ?_
                      refine r_goto hR 54 dX8_set_50 (by decide) ?_
                      refine r_nm (bI ((0 ≤ x.toInt ∧ x.toInt < aS A 3) ∧ (1 ≤ y.toInt ∧ y.toInt ≤ 3) ∧ (0 ≤ z.toInt ∧ z.toInt ≤ mostN (uN y)))) ?_ J54
                      first
                      | exact (bI_t (by omega)).symm
                      | exact (bI_f (by omega)).symm
          · try simp (disch := omega) only [nI_ltI, nI_leI, nI_eq, bI_0, Decidable.not_not, lc_lt, lc_gt, lc_ge, lc_le, lc_eq, i64_toInt] at c23
            try simp (disch := omega) only [cv_lt, cv_le, cv_eq, nI_toInt, cv_0] at c23
            first
            | omega
            | refine r_bipush hR (nI 35) (by decide) dX8_set_26 ?_
              refine r_goto hR 43 dX8_set_28 (by decide) ?_
              refine r_cs3v hR ks_X8_47 (by decide) (t_X8_in) (Nat.le_of_ble_eq_true rfl) dX8_set_43 ?_
              refine r_if_eq hR 53 dX8_set_46 (by decide) (fun c46 => ?_) (fun c46 => ?_)
              · try simp (disch := omega) only [nI_ltI, nI_leI, nI_eq, bI_0, Decidable.not_not, lc_lt, lc_gt, lc_ge, lc_le, lc_eq, i64_toInt] at c46
                try simp (disch := omega) only [cv_lt, cv_le, cv_eq, nI_toInt, cv_0] at c46
                first
                | omega
                | refine r_iconst hR (nI 0) (by decide) dX8_set_53 ?_
                  refine r_nm (bI ((0 ≤ x.toInt ∧ x.toInt < aS A 3) ∧ (1 ≤ y.toInt ∧ y.toInt ≤ 3) ∧ (0 ≤ z.toInt ∧ z.toInt ≤ mostN (uN y)))) ?_ J54
                  first
                  | exact (bI_t (by omega)).symm
                  | exact (bI_f (by omega)).symm
              · try simp (disch := omega) only [nI_ltI, nI_leI, nI_eq, bI_0, Decidable.not_not, lc_lt, lc_gt, lc_ge, lc_le, lc_eq, i64_toInt] at c46
                try simp (disch := omega) only [cv_lt, cv_le, cv_eq, nI_toInt, cv_0] at c46
                first
                | omega
                | refine r_iconst hR (nI 1) (by decide) dX8_set_49 ?_
                  refine r_goto hR 54 dX8_set_50 (by decide) ?_
                  refine r_nm (bI ((0 ≤ x.toInt ∧ x.toInt < aS A 3) ∧ (1 ≤ y.toInt ∧ y.toInt ≤ 3) ∧ (0 ≤ z.toInt ∧ z.toInt ≤ mostN (uN y)))) ?_ J54
                  first
                  | exact (bI_t (by omega)).symm
                  | exact (bI_f (by omega)).symm

set_option maxHeartbeats 4000000 in
set_option maxRecDepth 100000 in
theorem t_X8_turn {G : gG} {M : gM} {A : gA} {x y : Int32} (hc : mdlP M A) (hw : wfA A) : Ct G mX8_turn 2 [.ref (ad G 15 0), .int x, .int y] M (Qm M (oTurn A x y)) := by
  obtain ⟨hwf, hday, hwk, hk2, hl, hT, hsh⟩ := id hw
  obtain ⟨w0, w1, w2, w3, wr, wt⟩ := id hwf
  obtain ⟨h, hKp, hkk, hlp, htp, hshp, hfp⟩ := id hc
  refine Ct.of (by decide +kernel) (k := 0) (ls0 := [some (.ref (ad G 15 0)), some (.int x), some (.int y)]) rfl rfl (fun _ _ => trivial) ?_
  intro P hR
  refine r_aload0 hR dX8_turn_0 ?_
  refine r_iload1 hR dX8_turn_1 ?_
  refine r_cv1v hR kv_X8_97 (by decide) (t_X8_isThing h w3) (by first | decide | assumption | (simp only [gcnt_4, gcnt_1, gcnt_2, gcnt_3, gcnt_12, gcnt_13, gcnt_16]; omega)) rfl rfl (Nat.le_of_ble_eq_true rfl) dX8_turn_2 ?_
  refine r_if_eq hR 32 dX8_turn_5 (by decide) (fun c5 => ?_) (fun c5 => ?_)
  · try simp (disch := omega) only [nI_ltI, nI_leI, nI_eq, bI_0, Decidable.not_not, lc_lt, lc_gt, lc_ge, lc_le, lc_eq, i64_toInt] at c5
    try simp (disch := omega) only [cv_lt, cv_le, cv_eq, nI_toInt, cv_0] at c5
    first
    | omega
    | refine r_aload0 hR dX8_turn_32 ?_
      refine r_ldc hR ct_X8_41 dX8_turn_33 ?_
      refine r_cv1v hR kv_X8_43 (by decide) (t_X8_findsC (n := 0) (by decide) (by decide)) (by first | decide | assumption | (simp only [gcnt_4, gcnt_1, gcnt_2, gcnt_3, gcnt_12, gcnt_13, gcnt_16]; omega)) rfl rfl (Nat.le_of_ble_eq_true rfl) dX8_turn_35 ?_
      refine r_iret hR dX8_turn_38 ?_
      first
      | (have e : oTurn A (nI t) (nI n) = (nI (thg (aS A) t 0), sS A (va_up (aS A) (11 + 4 * t) n)) := by
           unfold oTurn
           rw [if_pos (by simp (disch := omega) only [okI, okT, nI_toInt]; omega)]
           simp (disch := omega) only [uN_nI]
         unfold Qm
         rw [e]
         exact ⟨rfl, mdlP_sea hc (seti_160 M _ _) rfl (rowP_up h (by omega)), keepC_row (seti_160 M _ _) rfl⟩)
      | (refine Qm_fnd hc (by decide) ?_
         unfold oTurn
         dsimp only [okI, okT]
         (repeat' split) <;> first | rfl | omega)
  · try simp (disch := omega) only [nI_ltI, nI_leI, nI_eq, bI_0, Decidable.not_not, lc_lt, lc_gt, lc_ge, lc_le, lc_eq, i64_toInt] at c5
    try simp (disch := omega) only [cv_lt, cv_le, cv_eq, nI_toInt, cv_0] at c5
    first
    | omega
    | refine r_iload2 hR dX8_turn_8 ?_
      refine r_i2l hR dX8_turn_9 ?_
      refine r_iconst hR (nI 0) (by decide) dX8_turn_10 ?_
      refine r_iconst hR (nI 5) (by decide) dX8_turn_11 ?_
      refine r_cs3v hR ks_X8_47 (by decide) (t_X8_in) (Nat.le_of_ble_eq_true rfl) dX8_turn_12 ?_
      refine r_if_eq hR 32 dX8_turn_15 (by decide) (fun c15 => ?_) (fun c15 => ?_)
      · try simp (disch := omega) only [nI_ltI, nI_leI, nI_eq, bI_0, Decidable.not_not, lc_lt, lc_gt, lc_ge, lc_le, lc_eq, i64_toInt] at c15
        try simp (disch := omega) only [cv_lt, cv_le, cv_eq, nI_toInt, cv_0] at c15
        first
        | omega
        | refine r_aload0 hR dX8_turn_32 ?_
          refine r_ldc hR ct_X8_41 dX8_turn_33 ?_
          refine r_cv1v hR kv_X8_43 (by decide) (t_X8_findsC (n := 0) (by decide) (by decide)) (by first | decide | assumption | (simp only [gcnt_4, gcnt_1, gcnt_2, gcnt_3, gcnt_12, gcnt_13, gcnt_16]; omega)) rfl rfl (Nat.le_of_ble_eq_true rfl) dX8_turn_35 ?_
          refine r_iret hR dX8_turn_38 ?_
          first
          | (have e : oTurn A (nI t) (nI n) = (nI (thg (aS A) t 0), sS A (va_up (aS A) (11 + 4 * t) n)) := by
               unfold oTurn
               rw [if_pos (by simp (disch := omega) only [okI, okT, nI_toInt]; omega)]
               simp (disch := omega) only [uN_nI]
             unfold Qm
             rw [e]
             exact ⟨rfl, mdlP_sea hc (seti_160 M _ _) rfl (rowP_up h (by omega)), keepC_row (seti_160 M _ _) rfl⟩)
          | (refine Qm_fnd hc (by decide) ?_
             unfold oTurn
             dsimp only [okI, okT]
             (repeat' split) <;> first | rfl | omega)
      · try simp (disch := omega) only [nI_ltI, nI_leI, nI_eq, bI_0, Decidable.not_not, lc_lt, lc_gt, lc_ge, lc_le, lc_eq, i64_toInt] at c15
        try simp (disch := omega) only [cv_lt, cv_le, cv_eq, nI_toInt, cv_0] at c15
        first
        | omega
        | obtain ⟨n, hn, rfl⟩ := of_in (x := y) (N := 5) (by omega)
          obtain ⟨t, ht0, rfl⟩ := of_in (x := x) (N := aS A 3 - 1) (by omega)
          have htt : t < aS A 3 := by rw [nI_toInt (by omega)] at c5; omega
          refine r_aload0 hR dX8_turn_18 ?_
          refine r_bipush hR (nI 11) (by decide) dX8_turn_19 ?_
          refine r_iconst hR (nI 4) (by decide) dX8_turn_21 ?_
          refine r_iload1 hR dX8_turn_22 ?_
          refine r_imul hR dX8_turn_23 ?_
          try rw [pk_mul]
          refine r_iadd hR dX8_turn_24 ?_
          try rw [nI_add]
          refine r_iload2 hR dX8_turn_25 ?_
          refine r_cv2v hR kv_X8_51 (by decide) (t_X8_becomes (by omega)) (by first | decide | assumption | (simp only [gcnt_4, gcnt_1, gcnt_2, gcnt_3, gcnt_12, gcnt_13, gcnt_16]; omega)) rfl rfl (Nat.le_of_ble_eq_true rfl) dX8_turn_26 ?_
          rw [h _ (by omega)]
          refine r_goto hR 38 dX8_turn_29 (by decide) ?_
          refine r_iret hR dX8_turn_38 ?_
          first
          | (have e : oTurn A (nI t) (nI n) = (nI (thg (aS A) t 0), sS A (va_up (aS A) (11 + 4 * t) n)) := by
               unfold oTurn
               rw [if_pos (by simp (disch := omega) only [okI, okT, nI_toInt]; omega)]
               simp (disch := omega) only [uN_nI]
             unfold Qm
             rw [e]
             exact ⟨rfl, mdlP_sea hc (seti_160 M _ _) rfl (rowP_up h (by omega)), keepC_row (seti_160 M _ _) rfl⟩)
          | (refine Qm_fnd hc (by decide) ?_
             unfold oTurn
             dsimp only [okI, okT]
             (repeat' split) <;> first | rfl | omega)

set_option maxHeartbeats 4000000 in
set_option maxRecDepth 100000 in
theorem t_X8_as {G : gG} {M : gM} {A : gA} {x y : Int32} (hc : mdlP M A) (hw : wfA A) : Ct G mX8_as 2 [.ref (ad G 15 0), .int x, .int y] M (Qm M (oAs A x y)) := by
  obtain ⟨hwf, hday, hwk, hk2, hl, hT, hsh⟩ := id hw
  obtain ⟨w0, w1, w2, w3, wr, wt⟩ := id hwf
  obtain ⟨h, hKp, hkk, hlp, htp, hshp, hfp⟩ := id hc
  refine Ct.of (by decide +kernel) (k := 2) (ls0 := [some (.ref (ad G 15 0)), some (.int x), some (.int y), none, none]) rfl rfl (fun _ _ => trivial) ?_
  intro P hR
  refine r_aload0 hR dX8_as_0 ?_
  refine r_iload1 hR dX8_as_1 ?_
  refine r_cv1v hR kv_X8_97 (by decide) (t_X8_isThing h w3) (by first | decide | assumption | (simp only [gcnt_4, gcnt_1, gcnt_2, gcnt_3, gcnt_12, gcnt_13, gcnt_16]; omega)) rfl rfl (Nat.le_of_ble_eq_true rfl) dX8_as_2 ?_
  refine r_if_eq hR 18 dX8_as_5 (by decide) (fun c5 => ?_) (fun c5 => ?_)
  · try simp (disch := omega) only [nI_ltI, nI_leI, nI_eq, bI_0, Decidable.not_not, lc_lt, lc_gt, lc_ge, lc_le, lc_eq, i64_toInt] at c5
    try simp (disch := omega) only [cv_lt, cv_le, cv_eq, nI_toInt, cv_0] at c5
    first
    | omega
    | refine r_aload0 hR dX8_as_18 ?_
      refine r_ldc hR ct_X8_41 dX8_as_19 ?_
      refine r_cv1v hR kv_X8_43 (by decide) (t_X8_findsC (n := 0) (by decide) (by decide)) (by first | decide | assumption | (simp only [gcnt_4, gcnt_1, gcnt_2, gcnt_3, gcnt_12, gcnt_13, gcnt_16]; omega)) rfl rfl (Nat.le_of_ble_eq_true rfl) dX8_as_21 ?_
      refine r_iret hR dX8_as_24 ?_
      refine Qm_fnd hc (by decide) ?_
      unfold oAs
      dsimp only [okI, okT]
      (repeat' split) <;> first | rfl | omega
  · try simp (disch := omega) only [nI_ltI, nI_leI, nI_eq, bI_0, Decidable.not_not, lc_lt, lc_gt, lc_ge, lc_le, lc_eq, i64_toInt] at c5
    try simp (disch := omega) only [cv_lt, cv_le, cv_eq, nI_toInt, cv_0] at c5
    first
    | omega
    | refine r_iload2 hR dX8_as_8 ?_
      refine r_i2l hR dX8_as_9 ?_
      refine r_iconst hR (nI 0) (by decide) dX8_as_10 ?_
      refine r_iconst hR (nI 5) (by decide) dX8_as_11 ?_
      refine r_cs3v hR ks_X8_47 (by decide) (t_X8_in) (Nat.le_of_ble_eq_true rfl) dX8_as_12 ?_
      refine r_if_ne hR 25 dX8_as_15 (by decide) (fun c15 => ?_) (fun c15 => ?_)
      · try simp (disch := omega) only [nI_ltI, nI_leI, nI_eq, bI_0, Decidable.not_not, lc_lt, lc_gt, lc_ge, lc_le, lc_eq, i64_toInt] at c15
        try simp (disch := omega) only [cv_lt, cv_le, cv_eq, nI_toInt, cv_0] at c15
        first
        | omega
        | obtain ⟨n, hn, rfl⟩ := of_in (x := y) (N := 5) (by omega)
          obtain ⟨t, ht0, rfl⟩ := of_in (x := x) (N := aS A 3 - 1) (by omega)
          have htt : t < aS A 3 := by rw [nI_toInt (by omega)] at c5; omega
          have q0 : thg (aS A) t 0 < 6 := by have := wt t htt; unfold thg; rw [Nat.add_zero]; omega
          have q1 : thg (aS A) t 1 < 36 := by have := wt t htt; unfold thg; omega
          have q2 : thg (aS A) t 2 < 8 := by have := wt t htt; unfold thg; omega
          have q3 : thg (aS A) t 3 ≤ 99999 := by have := wt t htt; unfold thg; omega
          have e : oAs A (nI t) (nI n) = if n = 0 ∨ n = thg (aS A) t 0 ∨ (n = 1 ∧ thg (aS A) t 0 = 4) ∨ (n = 2 ∧ thg (aS A) t 0 = 5) then (nI (thg (aS A) t 3), A) else fnd A 2 := by
            unfold oAs
            rw [if_pos (by simp (disch := omega) only [okI, okT, nI_toInt]; omega)]
            simp (disch := omega) only [uN_nI]
          have J66 : P 66 [some (.ref (ad G 15 0)), some (.int (nI t)), some (.int (nI n)), some (.int (nI (thg (aS A) t 0))), none] [.int (bI (n = 0 ∨ n = thg (aS A) t 0 ∨ (n = 1 ∧ thg (aS A) t 0 = 4) ∨ (n = 2 ∧ thg (aS A) t 0 = 5)))] M := by
            refine r_istore4 hR (fun _ h => by first | (cases h; rfl) | exact absurd h (by simp)) dX8_as_66 ?_
            refine r_iload4 hR dX8_as_68 ?_
            refine r_if_eq hR 82 dX8_as_70 (by decide) (fun c70 => ?_) (fun c70 => ?_)
            · try simp (disch := omega) only [nI_ltI, nI_leI, nI_eq, bI_0, Decidable.not_not, lc_lt, lc_gt, lc_ge, lc_le, lc_eq, i64_toInt] at c70
              try simp (disch := omega) only [cv_lt, cv_le, cv_eq, nI_toInt, cv_0] at c70
              first
              | omega
              | refine r_aload0 hR dX8_as_82 ?_
                refine r_ldc hR ct_X8_104 dX8_as_83 ?_
                refine r_cv1v hR kv_X8_43 (by decide) (t_X8_findsC (n := 2) (by decide) (by decide)) (by first | decide | assumption | (simp only [gcnt_4, gcnt_1, gcnt_2, gcnt_3, gcnt_12, gcnt_13, gcnt_16]; omega)) rfl rfl (Nat.le_of_ble_eq_true rfl) dX8_as_85 ?_
                refine r_iret hR dX8_as_88 ?_
                first
                | (rw [e, if_pos c70]
                   exact ⟨rfl, hc, keepC.rf M⟩)
                | (rw [e, if_neg c70]
                   exact Qm_fnd hc (by decide) rfl)
            · try simp (disch := omega) only [nI_ltI, nI_leI, nI_eq, bI_0, Decidable.not_not, lc_lt, lc_gt, lc_ge, lc_le, lc_eq, i64_toInt] at c70
              try simp (disch := omega) only [cv_lt, cv_le, cv_eq, nI_toInt, cv_0] at c70
              first
              | omega
              | refine r_aload0 hR dX8_as_73 ?_
                refine r_iload1 hR dX8_as_74 ?_
                refine r_iconst hR (nI 3) (by decide) dX8_as_75 ?_
                refine r_cv2v hR kv_X8_75 (by decide) (t_X8_it h htt (by decide) w3) (by first | decide | assumption | (simp only [gcnt_4, gcnt_1, gcnt_2, gcnt_3, gcnt_12, gcnt_13, gcnt_16]; omega)) rfl rfl (Nat.le_of_ble_eq_true rfl) dX8_as_76 ?_
                refine r_goto hR 88 dX8_as_79 (by decide) ?_
                refine r_iret hR dX8_as_88 ?_
                first
                | (rw [e, if_pos c70]
                   exact ⟨rfl, hc, keepC.rf M⟩)
                | (rw [e, if_neg c70]
                   exact Qm_fnd hc (by decide) rfl)
          refine r_aload0 hR dX8_as_25 ?_
          refine r_iload1 hR dX8_as_26 ?_
          refine r_iconst hR (nI 0) (by decide) dX8_as_27 ?_
          refine r_cv2v hR kv_X8_75 (by decide) (t_X8_it h htt (by decide) w3) (by first | decide | assumption | (simp only [gcnt_4, gcnt_1, gcnt_2, gcnt_3, gcnt_12, gcnt_13, gcnt_16]; omega)) rfl rfl (Nat.le_of_ble_eq_true rfl) dX8_as_28 ?_
          refine r_istore3 hR (fun _ h => by first | (cases h; rfl) | exact absurd h (by simp)) dX8_as_31 ?_
          refine r_iload2 hR dX8_as_32 ?_
          refine r_if_eq hR 61 dX8_as_33 (by decide) (fun c33 => ?_) (fun c33 => ?_)
          · try simp (disch := omega) only [nI_ltI, nI_leI, nI_eq, bI_0, Decidable.not_not, lc_lt, lc_gt, lc_ge, lc_le, lc_eq, i64_toInt] at c33
            try simp (disch := omega) only [cv_lt, cv_le, cv_eq, nI_toInt, cv_0] at c33
            first
            | omega
            | refine r_iconst hR (nI 1) (by decide) dX8_as_61 ?_
              refine r_goto hR 66 dX8_as_62 (by decide) ?_
              refine r_nm (bI (n = 0 ∨ n = thg (aS A) t 0 ∨ (n = 1 ∧ thg (aS A) t 0 = 4) ∨ (n = 2 ∧ thg (aS A) t 0 = 5))) ?_ J66
              first
              | exact (bI_t (by omega)).symm
              | exact (bI_f (by omega)).symm
          · try simp (disch := omega) only [nI_ltI, nI_leI, nI_eq, bI_0, Decidable.not_not, lc_lt, lc_gt, lc_ge, lc_le, lc_eq, i64_toInt] at c33
            try simp (disch := omega) only [cv_lt, cv_le, cv_eq, nI_toInt, cv_0] at c33
            first
            | omega
            | refine r_iload2 hR dX8_as_36 ?_
              refine r_iload3 hR dX8_as_37 ?_
              refine r_icmp_eq hR 61 dX8_as_38 (by decide) (fun c38 => ?_) (fun c38 => ?_)
              · try simp (disch := omega) only [nI_ltI, nI_leI, nI_eq, bI_0, Decidable.not_not, lc_lt, lc_gt, lc_ge, lc_le, lc_eq, i64_toInt] at c38
                try simp (disch := omega) only [cv_lt, cv_le, cv_eq, nI_toInt, cv_0] at c38
                first
                | omega
                | refine r_iconst hR (nI 1) (by decide) dX8_as_61 ?_
                  refine r_goto hR 66 dX8_as_62 (by decide) ?_
                  refine r_nm (bI (n = 0 ∨ n = thg (aS A) t 0 ∨ (n = 1 ∧ thg (aS A) t 0 = 4) ∨ (n = 2 ∧ thg (aS A) t 0 = 5))) ?_ J66
                  first
                  | exact (bI_t (by omega)).symm
                  | exact (bI_f (by omega)).symm
              · try simp (disch := omega) only [nI_ltI, nI_leI, nI_eq, bI_0, Decidable.not_not, lc_lt, lc_gt, lc_ge, lc_le, lc_eq, i64_toInt] at c38
                try simp (disch := omega) only [cv_lt, cv_le, cv_eq, nI_toInt, cv_0] at c38
                first
                | omega
                | refine r_iload2 hR dX8_as_41 ?_
                  refine r_iconst hR (nI 1) (by decide) dX8_as_42 ?_
                  refine r_icmp_ne hR 51 dX8_as_43 (by decide) (fun c43 => ?_) (fun c43 => ?_)
                  · try simp (disch := omega) only [nI_ltI, nI_leI, nI_eq, bI_0, Decidable.not_not, lc_lt, lc_gt, lc_ge, lc_le, lc_eq, i64_toInt] at c43
                    try simp (disch := omega) only [cv_lt, cv_le, cv_eq, nI_toInt, cv_0] at c43
                    first
                    | omega
                    | refine r_iload2 hR dX8_as_51 ?_
                      refine r_iconst hR (nI 2) (by decide) dX8_as_52 ?_
                      refine r_icmp_ne hR 65 dX8_as_53 (by decide) (fun c53 => ?_) (fun c53 => ?_)
                      · try simp (disch := omega) only [nI_ltI, nI_leI, nI_eq, bI_0, Decidable.not_not, lc_lt, lc_gt, lc_ge, lc_le, lc_eq, i64_toInt] at c53
                        try simp (disch := omega) only [cv_lt, cv_le, cv_eq, nI_toInt, cv_0] at c53
                        first
                        | omega
                        | refine r_iconst hR (nI 0) (by decide) dX8_as_65 ?_
                          refine r_nm (bI (n = 0 ∨ n = thg (aS A) t 0 ∨ (n = 1 ∧ thg (aS A) t 0 = 4) ∨ (n = 2 ∧ thg (aS A) t 0 = 5))) ?_ J66
                          first
                          | exact (bI_t (by omega)).symm
                          | exact (bI_f (by omega)).symm
                      · try simp (disch := omega) only [nI_ltI, nI_leI, nI_eq, bI_0, Decidable.not_not, lc_lt, lc_gt, lc_ge, lc_le, lc_eq, i64_toInt] at c53
                        try simp (disch := omega) only [cv_lt, cv_le, cv_eq, nI_toInt, cv_0] at c53
                        first
                        | omega
                        | refine r_iload3 hR dX8_as_56 ?_
                          refine r_iconst hR (nI 5) (by decide) dX8_as_57 ?_
                          refine r_icmp_ne hR 65 dX8_as_58 (by decide) (fun c58 => ?_) (fun c58 => ?_)
                          · try simp (disch := omega) only [nI_ltI, nI_leI, nI_eq, bI_0, Decidable.not_not, lc_lt, lc_gt, lc_ge, lc_le, lc_eq, i64_toInt] at c58
                            try simp (disch := omega) only [cv_lt, cv_le, cv_eq, nI_toInt, cv_0] at c58
                            first
                            | omega
                            | refine r_iconst hR (nI 0) (by decide) dX8_as_65 ?_
                              refine r_nm (bI (n = 0 ∨ n = thg (aS A) t 0 ∨ (n = 1 ∧ thg (aS A) t 0 = 4) ∨ (n = 2 ∧ thg (aS A) t 0 = 5))) ?_ J66
                              first
                              | exact (bI_t (by omega)).symm
                              | exact (bI_f (by omega)).symm
                          · try simp (disch := omega) only [nI_ltI, nI_leI, nI_eq, bI_0, Decidable.not_not, lc_lt, lc_gt, lc_ge, lc_le, lc_eq, i64_toInt] at c58
                            try simp (disch := omega) only [cv_lt, cv_le, cv_eq, nI_toInt, cv_0] at c58
                            first
                            | omega
                            | refine r_iconst hR (nI 1) (by decide) dX8_as_61 ?_
                              refine r_goto hR 66 dX8_as_62 (by decide) ?_
                              refine r_nm (bI (n = 0 ∨ n = thg (aS A) t 0 ∨ (n = 1 ∧ thg (aS A) t 0 = 4) ∨ (n = 2 ∧ thg (aS A) t 0 = 5))) ?_ J66
                              first
                              | exact (bI_t (by omega)).symm
                              | exact (bI_f (by omega)).symm
                  · try simp (disch := omega) only [nI_ltI, nI_leI, nI_eq, bI_0, Decidable.not_not, lc_lt, lc_gt, lc_ge, lc_le, lc_eq, i64_toInt] at c43
                    try simp (disch := omega) only [cv_lt, cv_le, cv_eq, nI_toInt, cv_0] at c43
                    first
                    | omega
                    | refine r_iload3 hR dX8_as_46 ?_
                      refine r_iconst hR (nI 4) (by decide) dX8_as_47 ?_
                      refine r_icmp_eq hR 61 dX8_as_48 (by decide) (fun c48 => ?_) (fun c48 => ?_)
                      · try simp (disch := omega) only [nI_ltI, nI_leI, nI_eq, bI_0, Decidable.not_not, lc_lt, lc_gt, lc_ge, lc_le, lc_eq, i64_toInt] at c48
                        try simp (disch := omega) only [cv_lt, cv_le, cv_eq, nI_toInt, cv_0] at c48
                        first
                        | omega
                        | refine r_iconst hR (nI 1) (by decide) dX8_as_61 ?_
                          refine r_goto hR 66 dX8_as_62 (by decide) ?_
                          refine r_nm (bI (n = 0 ∨ n = thg (aS A) t 0 ∨ (n = 1 ∧ thg (aS A) t 0 = 4) ∨ (n = 2 ∧ thg (aS A) t 0 = 5))) ?_ J66
                          first
                          | exact (bI_t (by omega)).symm
                          | exact (bI_f (by omega)).symm
                      · try simp (disch := omega) only [nI_ltI, nI_leI, nI_eq, bI_0, Decidable.not_not, lc_lt, lc_gt, lc_ge, lc_le, lc_eq, i64_toInt] at c48
                        try simp (disch := omega) only [cv_lt, cv_le, cv_eq, nI_toInt, cv_0] at c48
                        first
                        | omega
                        | refine r_iload2 hR dX8_as_51 ?_
                          refine r_iconst hR (nI 2) (by decide) dX8_as_52 ?_
                          refine r_icmp_ne hR 65 dX8_as_53 (by decide) (fun c53 => ?_) (fun c53 => ?_)
                          · try simp (disch := omega) only [nI_ltI, nI_leI, nI_eq, bI_0, Decidable.not_not, lc_lt, lc_gt, lc_ge, lc_le, lc_eq, i64_toInt] at c53
                            try simp (disch := omega) only [cv_lt, cv_le, cv_eq, nI_toInt, cv_0] at c53
                            first
                            | omega
                            | refine r_iconst hR (nI 0) (by decide) dX8_as_65 ?_
                              refine r_nm (bI (n = 0 ∨ n = thg (aS A) t 0 ∨ (n = 1 ∧ thg (aS A) t 0 = 4) ∨ (n = 2 ∧ thg (aS A) t 0 = 5))) ?_ J66
                              first
                              | exact (bI_t (by omega)).symm
                              | exact (bI_f (by omega)).symm
                          · try simp (disch := omega) only [nI_ltI, nI_leI, nI_eq, bI_0, Decidable.not_not, lc_lt, lc_gt, lc_ge, lc_le, lc_eq, i64_toInt] at c53
                            try simp (disch := omega) only [cv_lt, cv_le, cv_eq, nI_toInt, cv_0] at c53
                            first
                            | omega
                            | refine r_iload3 hR dX8_as_56 ?_
                              refine r_iconst hR (nI 5) (by decide) dX8_as_57 ?_
                              refine r_icmp_ne hR 65 dX8_as_58 (by decide) (fun c58 => ?_) (fun c58 => ?_)
                              · try simp (disch := omega) only [nI_ltI, nI_leI, nI_eq, bI_0, Decidable.not_not, lc_lt, lc_gt, lc_ge, lc_le, lc_eq, i64_toInt] at c58
                                try simp (disch := omega) only [cv_lt, cv_le, cv_eq, nI_toInt, cv_0] at c58
                                first
                                | omega
                                | refine r_iconst hR (nI 0) (by decide) dX8_as_65 ?_
                                  refine r_nm (bI (n = 0 ∨ n = thg (aS A) t 0 ∨ (n = 1 ∧ thg (aS A) t 0 = 4) ∨ (n = 2 ∧ thg (aS A) t 0 = 5))) ?_ J66
                                  first
                                  | exact (bI_t (by omega)).symm
                                  | exact (bI_f (by omega)).symm
                              · try simp (disch := omega) only [nI_ltI, nI_leI, nI_eq, bI_0, Decidable.not_not, lc_lt, lc_gt, lc_ge, lc_le, lc_eq, i64_toInt] at c58
                                try simp (disch := omega) only [cv_lt, cv_le, cv_eq, nI_toInt, cv_0] at c58
                                first
                                | omega
                                | refine r_iconst hR (nI 1) (by decide) dX8_as_61 ?_
                                  refine r_goto hR 66 dX8_as_62 (by decide) ?_
                                  refine r_nm (bI (n = 0 ∨ n = thg (aS A) t 0 ∨ (n = 1 ∧ thg (aS A) t 0 = 4) ∨ (n = 2 ∧ thg (aS A) t 0 = 5))) ?_ J66
                                  first
                                  | exact (bI_t (by omega)).symm
                                  | exact (bI_f (by omega)).symm
      · try simp (disch := omega) only [nI_ltI, nI_leI, nI_eq, bI_0, Decidable.not_not, lc_lt, lc_gt, lc_ge, lc_le, lc_eq, i64_toInt] at c15
        try simp (disch := omega) only [cv_lt, cv_le, cv_eq, nI_toInt, cv_0] at c15
        first
        | omega
        | refine r_aload0 hR dX8_as_18 ?_
          refine r_ldc hR ct_X8_41 dX8_as_19 ?_
          refine r_cv1v hR kv_X8_43 (by decide) (t_X8_findsC (n := 0) (by decide) (by decide)) (by first | decide | assumption | (simp only [gcnt_4, gcnt_1, gcnt_2, gcnt_3, gcnt_12, gcnt_13, gcnt_16]; omega)) rfl rfl (Nat.le_of_ble_eq_true rfl) dX8_as_21 ?_
          refine r_iret hR dX8_as_24 ?_
          refine Qm_fnd hc (by decide) ?_
          unfold oAs
          dsimp only [okI, okT]
          (repeat' split) <;> first | rfl | omega

set_option maxHeartbeats 4000000 in
set_option maxRecDepth 100000 in
theorem t_X8_days {G : gG} {M : gM} {A : gA} {x : Int32} (hc : mdlP M A) (hw : wfA A) : Ct G mX8_days 6 [.ref (ad G 15 0), .int x] M (Qm M (oDays A x)) := by
  obtain ⟨hwf, hday, hwk, hk2, hl, hT, hsh⟩ := id hw
  obtain ⟨w0, w1, w2, w3, wr, wt⟩ := id hwf
  obtain ⟨h, hKp, hkk, hlp, htp, hshp, hfp⟩ := id hc
  refine Ct.of (by decide +kernel) (k := 1) (ls0 := [some (.ref (ad G 15 0)), some (.int x), none]) rfl rfl (fun _ _ => trivial) ?_
  intro P hR
  refine r_iload1 hR dX8_days_0 ?_
  refine r_i2l hR dX8_days_1 ?_
  refine r_iconst hR (nI 1) (by decide) dX8_days_2 ?_
  refine r_bipush hR (nI 60) (by decide) dX8_days_3 ?_
  refine r_cs3v hR ks_X8_47 (by decide) (t_X8_in) (Nat.le_of_ble_eq_true rfl) dX8_days_5 ?_
  refine r_if_ne hR 18 dX8_days_8 (by decide) (fun c8 => ?_) (fun c8 => ?_)
  · try simp (disch := omega) only [nI_ltI, nI_leI, nI_eq, bI_0, Decidable.not_not, lc_lt, lc_gt, lc_ge, lc_le, lc_eq, i64_toInt] at c8
    try simp (disch := omega) only [cv_lt, cv_le, cv_eq, nI_toInt, cv_0] at c8
    first
    | omega
    | obtain ⟨n, hn, rfl⟩ := of_in (x := x) (N := 60) (by omega)
      simp (disch := omega) only [nI_toInt] at c8
      have e : oDays A (nI n) = if 9999 < aS A 0 + n then fnd A 4 else (nI (sumsN (dayN n (aS A))), sS A (dayN n (aS A))) := by
        unfold oDays
        rw [if_pos (by simp (disch := omega) only [okI, nI_toInt]; omega)]
        simp (disch := omega) only [uN_nI]
      refine r_aload0 hR dX8_days_18 ?_
      refine r_get hR (by first | decide | assumption | (simp only [gcnt_4, gcnt_1, gcnt_2, gcnt_3, gcnt_12, gcnt_13, gcnt_16]; omega)) fl_X8_9 rfl rfl dX8_days_19 ?_
      refine r_iconst hR (nI 0) (by decide) dX8_days_22 ?_
      refine r_iald hR (by first | decide | assumption | (simp only [gcnt_4, gcnt_1, gcnt_2, gcnt_3, gcnt_12, gcnt_13, gcnt_16]; omega)) rfl rfl (by omega) (by decide) dX8_days_23 ?_
      rw [h 0 (by omega)]
      refine r_iload1 hR dX8_days_24 ?_
      refine r_iadd hR dX8_days_25 ?_
      try rw [nI_add]
      refine r_sipush hR (nI 9999) (by decide) dX8_days_26 ?_
      refine r_icmp_le hR 39 dX8_days_29 (by decide) (fun c29 => ?_) (fun c29 => ?_)
      · try simp (disch := omega) only [nI_ltI, nI_leI, nI_eq, bI_0, Decidable.not_not, lc_lt, lc_gt, lc_ge, lc_le, lc_eq, i64_toInt] at c29
        try simp (disch := omega) only [cv_lt, cv_le, cv_eq, nI_toInt, cv_0] at c29
        first
        | omega
        | have L : ∀ (j i : Nat), i + j = n → P 41 [some (.ref (ad G 15 0)), some (.int (nI n)), some (.int (nI i))] [] (pm M (dayN i (aS A))) := by
            intro j
            induction j with
            | zero =>
              intro i  hij 
              have hP := rowP_pm M (dayN i (aS A))
              have wfi : wfS (dayN i (aS A)) := wf_dayN hwf (by omega)
              refine r_iload2 hR dX8_days_41 ?_
              refine r_iload1 hR dX8_days_42 ?_
              refine r_icmp_ge hR 56 dX8_days_43 (by decide) (fun c43 => ?_) (fun c43 => ?_)
              · try simp (disch := omega) only [nI_ltI, nI_leI, nI_eq, bI_0, Decidable.not_not, lc_lt, lc_gt, lc_ge, lc_le, lc_eq, i64_toInt] at c43
                try simp (disch := omega) only [cv_lt, cv_le, cv_eq, nI_toInt, cv_0] at c43
                first
                | omega
                | refine r_aload0 hR dX8_days_56 ?_
                  refine r_cv0v hR kv_X8_116 (by decide) (t_X8_sums hP wfi) (by first | decide | assumption | (simp only [gcnt_4, gcnt_1, gcnt_2, gcnt_3, gcnt_12, gcnt_13, gcnt_16]; omega)) rfl rfl (Nat.le_of_ble_eq_true rfl) dX8_days_57 ?_
                  refine r_iret hR dX8_days_60 ?_
                  first
                  | (obtain rfl : i = n := by omega
                     rw [e, if_neg (by omega)]
                     exact ⟨rfl, mdlP_sea hc (putR_160 M _ _) rfl (rowP_pm M _), keepC_row (putR_160 M _ _) rfl⟩)
                  | (omega)
              · try simp (disch := omega) only [nI_ltI, nI_leI, nI_eq, bI_0, Decidable.not_not, lc_lt, lc_gt, lc_ge, lc_le, lc_eq, i64_toInt] at c43
                try simp (disch := omega) only [cv_lt, cv_le, cv_eq, nI_toInt, cv_0] at c43
                first
                | omega
                | refine r_aload0 hR dX8_days_46 ?_
                  refine r_cv0u hR kv_X8_113 (by decide) (t_X8_day hP wfi) (by first | decide | assumption | (simp only [gcnt_4, gcnt_1, gcnt_2, gcnt_3, gcnt_12, gcnt_13, gcnt_16]; omega)) rfl rfl (Nat.le_of_ble_eq_true rfl) dX8_days_47 ?_
                  refine r_iinc2 hR (nI 1) (by decide) (fun _ h => by first | (cases h; rfl) | exact absurd h (by simp)) dX8_days_50 ?_
                  try rw [nI_add]
                  refine r_goto hR 41 dX8_days_53 (by decide) ?_
                  omega
            | succ j ih =>
              intro i  hij 
              have hP := rowP_pm M (dayN i (aS A))
              have wfi : wfS (dayN i (aS A)) := wf_dayN hwf (by omega)
              refine r_iload2 hR dX8_days_41 ?_
              refine r_iload1 hR dX8_days_42 ?_
              refine r_icmp_ge hR 56 dX8_days_43 (by decide) (fun c43 => ?_) (fun c43 => ?_)
              · try simp (disch := omega) only [nI_ltI, nI_leI, nI_eq, bI_0, Decidable.not_not, lc_lt, lc_gt, lc_ge, lc_le, lc_eq, i64_toInt] at c43
                try simp (disch := omega) only [cv_lt, cv_le, cv_eq, nI_toInt, cv_0] at c43
                first
                | omega
                | refine r_aload0 hR dX8_days_56 ?_
                  refine r_cv0v hR kv_X8_116 (by decide) (t_X8_sums hP wfi) (by first | decide | assumption | (simp only [gcnt_4, gcnt_1, gcnt_2, gcnt_3, gcnt_12, gcnt_13, gcnt_16]; omega)) rfl rfl (Nat.le_of_ble_eq_true rfl) dX8_days_57 ?_
                  refine r_iret hR dX8_days_60 ?_
                  first
                  | (obtain rfl : i = n := by omega
                     rw [e, if_neg (by omega)]
                     exact ⟨rfl, mdlP_sea hc (putR_160 M _ _) rfl (rowP_pm M _), keepC_row (putR_160 M _ _) rfl⟩)
                  | (omega)
              · try simp (disch := omega) only [nI_ltI, nI_leI, nI_eq, bI_0, Decidable.not_not, lc_lt, lc_gt, lc_ge, lc_le, lc_eq, i64_toInt] at c43
                try simp (disch := omega) only [cv_lt, cv_le, cv_eq, nI_toInt, cv_0] at c43
                first
                | omega
                | refine r_aload0 hR dX8_days_46 ?_
                  refine r_cv0u hR kv_X8_113 (by decide) (t_X8_day hP wfi) (by first | decide | assumption | (simp only [gcnt_4, gcnt_1, gcnt_2, gcnt_3, gcnt_12, gcnt_13, gcnt_16]; omega)) rfl rfl (Nat.le_of_ble_eq_true rfl) dX8_days_47 ?_
                  refine r_iinc2 hR (nI 1) (by decide) (fun _ h => by first | (cases h; rfl) | exact absurd h (by simp)) dX8_days_50 ?_
                  try rw [nI_add]
                  refine r_goto hR 41 dX8_days_53 (by decide) ?_
                  refine r_mem (M2 := pm M (dayN (i + 1) (aS A))) ?_ (ih (i + 1) (by omega))
                  exact pm_pm M _ _ (by rw [dayN_3]; exact (dayN_3 (i + 1) (aS A)).symm)
          refine r_iconst hR (nI 0) (by decide) dX8_days_39 ?_
          refine r_istore2 hR (fun _ h => by first | (cases h; rfl) | exact absurd h (by simp)) dX8_days_40 ?_
          refine r_mem (M2 := pm M (dayN 0 (aS A))) (pm_id h).symm ?_
          exact L n 0 (by omega)
      · try simp (disch := omega) only [nI_ltI, nI_leI, nI_eq, bI_0, Decidable.not_not, lc_lt, lc_gt, lc_ge, lc_le, lc_eq, i64_toInt] at c29
        try simp (disch := omega) only [cv_lt, cv_le, cv_eq, nI_toInt, cv_0] at c29
        first
        | omega
        | refine r_aload0 hR dX8_days_32 ?_
          refine r_ldc hR ct_X8_112 dX8_days_33 ?_
          refine r_cv1v hR kv_X8_43 (by decide) (t_X8_findsC (n := 4) (by decide) (by decide)) (by first | decide | assumption | (simp only [gcnt_4, gcnt_1, gcnt_2, gcnt_3, gcnt_12, gcnt_13, gcnt_16]; omega)) rfl rfl (Nat.le_of_ble_eq_true rfl) dX8_days_35 ?_
          refine r_iret hR dX8_days_38 ?_
          rw [e, if_pos (by omega)]
          exact Qm_fnd hc (by decide) rfl
  · try simp (disch := omega) only [nI_ltI, nI_leI, nI_eq, bI_0, Decidable.not_not, lc_lt, lc_gt, lc_ge, lc_le, lc_eq, i64_toInt] at c8
    try simp (disch := omega) only [cv_lt, cv_le, cv_eq, nI_toInt, cv_0] at c8
    first
    | omega
    | refine r_aload0 hR dX8_days_11 ?_
      refine r_ldc hR ct_X8_41 dX8_days_12 ?_
      refine r_cv1v hR kv_X8_43 (by decide) (t_X8_findsC (n := 0) (by decide) (by decide)) (by first | decide | assumption | (simp only [gcnt_4, gcnt_1, gcnt_2, gcnt_3, gcnt_12, gcnt_13, gcnt_16]; omega)) rfl rfl (Nat.le_of_ble_eq_true rfl) dX8_days_14 ?_
      refine r_iret hR dX8_days_17 ?_
      refine Qm_fnd hc (by decide) ?_
      unfold oDays
      dsimp only [okI, okT]
      (repeat' split) <;> first | rfl | omega

set_option maxHeartbeats 4000000 in
set_option maxRecDepth 100000 in
theorem t_X8_bribe {G : gG} {M : gM} {A : gA} {x : Int32} (hc : mdlP M A) (hw : wfA A) : Ct G mX8_bribe 5 [.ref (ad G 15 0), .int x] M (Qm M (oBribe A x)) := by
  obtain ⟨hwf, hday, hwk, hk2, hl, hT, hsh⟩ := id hw
  obtain ⟨w0, w1, w2, w3, wr, wt⟩ := id hwf
  obtain ⟨h, hKp, hkk, hlp, htp, hshp, hfp⟩ := id hc
  refine Ct.of (by decide +kernel) (k := 0) (ls0 := [some (.ref (ad G 15 0)), some (.int x)]) rfl rfl (fun _ _ => trivial) ?_
  intro P hR
  refine r_iload1 hR dX8_bribe_0 ?_
  refine r_cs1v hR ks_X8_55 (by decide) (t_X8_isWind) (Nat.le_of_ble_eq_true rfl) dX8_bribe_1 ?_
  refine r_if_ne hR 14 dX8_bribe_4 (by decide) (fun c4 => ?_) (fun c4 => ?_)
  · try simp (disch := omega) only [nI_ltI, nI_leI, nI_eq, bI_0, Decidable.not_not, lc_lt, lc_gt, lc_ge, lc_le, lc_eq, i64_toInt] at c4
    try simp (disch := omega) only [cv_lt, cv_le, cv_eq, nI_toInt, cv_0] at c4
    first
    | omega
    | obtain ⟨n, hn, rfl⟩ := of_in (x := x) (N := 7) (by omega)
      have e : oBribe A (nI n) = if aS A 0 = 9999 then fnd A 4 else (nI (sumsN (dayW (aS A) n)), sS A (dayW (aS A) n)) := by
        unfold oBribe
        rw [if_pos (by simp (disch := omega) only [okI, nI_toInt]; omega)]
        simp (disch := omega) only [uN_nI]
      refine r_aload0 hR dX8_bribe_14 ?_
      refine r_get hR (by first | decide | assumption | (simp only [gcnt_4, gcnt_1, gcnt_2, gcnt_3, gcnt_12, gcnt_13, gcnt_16]; omega)) fl_X8_9 rfl rfl dX8_bribe_15 ?_
      refine r_iconst hR (nI 0) (by decide) dX8_bribe_18 ?_
      refine r_iald hR (by first | decide | assumption | (simp only [gcnt_4, gcnt_1, gcnt_2, gcnt_3, gcnt_12, gcnt_13, gcnt_16]; omega)) rfl rfl (by omega) (by decide) dX8_bribe_19 ?_
      rw [h 0 (by omega)]
      refine r_sipush hR (nI 9999) (by decide) dX8_bribe_20 ?_
      refine r_icmp_ne hR 33 dX8_bribe_23 (by decide) (fun c23 => ?_) (fun c23 => ?_)
      · try simp (disch := omega) only [nI_ltI, nI_leI, nI_eq, bI_0, Decidable.not_not, lc_lt, lc_gt, lc_ge, lc_le, lc_eq, i64_toInt] at c23
        try simp (disch := omega) only [cv_lt, cv_le, cv_eq, nI_toInt, cv_0] at c23
        first
        | omega
        | refine r_aload0 hR dX8_bribe_33 ?_
          refine r_iload1 hR dX8_bribe_34 ?_
          refine r_cv1u hR kv_X8_108 (by decide) (t_X8_goes h hwf (by omega)) (by first | decide | assumption | (simp only [gcnt_4, gcnt_1, gcnt_2, gcnt_3, gcnt_12, gcnt_13, gcnt_16]; omega)) rfl rfl (Nat.le_of_ble_eq_true rfl) dX8_bribe_35 ?_
          refine r_aload0 hR dX8_bribe_38 ?_
          refine r_cv0v hR kv_X8_116 (by decide) (t_X8_sums (rowP_pm M _) (wf_dayW hwf (by omega))) (by first | decide | assumption | (simp only [gcnt_4, gcnt_1, gcnt_2, gcnt_3, gcnt_12, gcnt_13, gcnt_16]; omega)) rfl rfl (Nat.le_of_ble_eq_true rfl) dX8_bribe_39 ?_
          refine r_iret hR dX8_bribe_42 ?_
          rw [e, if_neg (by omega)]
          exact ⟨rfl, mdlP_sea hc (putR_160 M _ _) rfl (rowP_pm M _), keepC_row (putR_160 M _ _) rfl⟩
      · try simp (disch := omega) only [nI_ltI, nI_leI, nI_eq, bI_0, Decidable.not_not, lc_lt, lc_gt, lc_ge, lc_le, lc_eq, i64_toInt] at c23
        try simp (disch := omega) only [cv_lt, cv_le, cv_eq, nI_toInt, cv_0] at c23
        first
        | omega
        | refine r_aload0 hR dX8_bribe_26 ?_
          refine r_ldc hR ct_X8_112 dX8_bribe_27 ?_
          refine r_cv1v hR kv_X8_43 (by decide) (t_X8_findsC (n := 4) (by decide) (by decide)) (by first | decide | assumption | (simp only [gcnt_4, gcnt_1, gcnt_2, gcnt_3, gcnt_12, gcnt_13, gcnt_16]; omega)) rfl rfl (Nat.le_of_ble_eq_true rfl) dX8_bribe_29 ?_
          refine r_iret hR dX8_bribe_32 ?_
          rw [e, if_pos (by omega)]
          exact Qm_fnd hc (by decide) rfl
  · try simp (disch := omega) only [nI_ltI, nI_leI, nI_eq, bI_0, Decidable.not_not, lc_lt, lc_gt, lc_ge, lc_le, lc_eq, i64_toInt] at c4
    try simp (disch := omega) only [cv_lt, cv_le, cv_eq, nI_toInt, cv_0] at c4
    first
    | omega
    | refine r_aload0 hR dX8_bribe_7 ?_
      refine r_ldc hR ct_X8_41 dX8_bribe_8 ?_
      refine r_cv1v hR kv_X8_43 (by decide) (t_X8_findsC (n := 0) (by decide) (by decide)) (by first | decide | assumption | (simp only [gcnt_4, gcnt_1, gcnt_2, gcnt_3, gcnt_12, gcnt_13, gcnt_16]; omega)) rfl rfl (Nat.le_of_ble_eq_true rfl) dX8_bribe_10 ?_
      refine r_iret hR dX8_bribe_13 ?_
      refine Qm_fnd hc (by decide) ?_
      unfold oBribe
      dsimp only [okI, okT]
      (repeat' split) <;> first | rfl | omega

set_option maxHeartbeats 4000000 in
set_option maxRecDepth 100000 in
theorem t_X8_now {G : gG} {M : gM} {A : gA} {x : Int32} (hc : mdlP M A) (hw : wfA A) : Ct G mX8_now 4 [.ref (ad G 15 0), .int x] M (Qm M (oNow A x)) := by
  obtain ⟨hwf, hday, hwk, hk2, hl, hT, hsh⟩ := id hw
  obtain ⟨w0, w1, w2, w3, wr, wt⟩ := id hwf
  obtain ⟨h, hKp, hkk, hlp, htp, hshp, hfp⟩ := id hc
  refine Ct.of (by decide +kernel) (k := 4) (ls0 := [some (.ref (ad G 15 0)), some (.int x), none, none, none, none]) rfl rfl (fun _ _ => trivial) ?_
  intro P hR
  refine r_iload1 hR dX8_now_0 ?_
  refine r_i2l hR dX8_now_1 ?_
  refine r_iconst hR (nI 0) (by decide) dX8_now_2 ?_
  refine r_bipush hR (nI 6) (by decide) dX8_now_3 ?_
  refine r_cs3v hR ks_X8_47 (by decide) (t_X8_in) (Nat.le_of_ble_eq_true rfl) dX8_now_5 ?_
  refine r_if_ne hR 18 dX8_now_8 (by decide) (fun c8 => ?_) (fun c8 => ?_)
  · try simp (disch := omega) only [nI_ltI, nI_leI, nI_eq, bI_0, Decidable.not_not, lc_lt, lc_gt, lc_ge, lc_le, lc_eq, i64_toInt] at c8
    try simp (disch := omega) only [cv_lt, cv_le, cv_eq, nI_toInt, cv_0] at c8
    first
    | omega
    | obtain ⟨n, hn, rfl⟩ := of_in (x := x) (N := 6) (by omega)
      have e : oNow A (nI n) = (nI (if n = 0 then aS A 0 else if n = 1 then blow (aS A) (aS A 0) else if n = 2 then aS A 1 else if n = 3 then aS A 2 else if n = 4 then sumsN (aS A) else if n = 5 then earP (aS A) (blow (aS A) (aS A 0)) (aS A 3) else goP (aS A) (blow (aS A) (aS A 0)) (aS A 3)), A) := by
        unfold oNow
        rw [if_pos (by simp (disch := omega) only [okI, nI_toInt]; omega)]
        simp (disch := omega) only [uN_nI]
      have L : ∀ (j i : Nat), i + j = aS A 3 → P 37 [some (.ref (ad G 15 0)), some (.int (nI n)), some (.int (nI (blow (aS A) (aS A 0)))), some (.int (nI (earP (aS A) (blow (aS A) (aS A 0)) i))), some (.int (nI (goP (aS A) (blow (aS A) (aS A 0)) i))), some (.int (nI i))] [] M := by
        intro j
        induction j with
        | zero =>
          intro i  hij 
          refine r_iload5 hR dX8_now_37 ?_
          refine r_aload0 hR dX8_now_39 ?_
          refine r_get hR (by first | decide | assumption | (simp only [gcnt_4, gcnt_1, gcnt_2, gcnt_3, gcnt_12, gcnt_13, gcnt_16]; omega)) fl_X8_9 rfl rfl dX8_now_40 ?_
          refine r_iconst hR (nI 3) (by decide) dX8_now_43 ?_
          refine r_iald hR (by first | decide | assumption | (simp only [gcnt_4, gcnt_1, gcnt_2, gcnt_3, gcnt_12, gcnt_13, gcnt_16]; omega)) rfl rfl (by omega) (by decide) dX8_now_44 ?_
          rw [h 3 (by omega)]
          refine r_icmp_ge hR 87 dX8_now_45 (by decide) (fun c45 => ?_) (fun c45 => ?_)
          · try simp (disch := omega) only [nI_ltI, nI_leI, nI_eq, bI_0, Decidable.not_not, lc_lt, lc_gt, lc_ge, lc_le, lc_eq, i64_toInt] at c45
            try simp (disch := omega) only [cv_lt, cv_le, cv_eq, nI_toInt, cv_0] at c45
            first
            | omega
            | refine r_iload1 hR dX8_now_87 ?_
              by_cases e0 : n = 0
              · refine r_swInN hR 0 e0 (by decide) 128 dX8_now_88 (by decide) (by decide) rfl (by decide) ?_
                refine r_aload0 hR dX8_now_128 ?_
                refine r_get hR (by first | decide | assumption | (simp only [gcnt_4, gcnt_1, gcnt_2, gcnt_3, gcnt_12, gcnt_13, gcnt_16]; omega)) fl_X8_9 rfl rfl dX8_now_129 ?_
                refine r_iconst hR (nI 0) (by decide) dX8_now_132 ?_
                refine r_iald hR (by first | decide | assumption | (simp only [gcnt_4, gcnt_1, gcnt_2, gcnt_3, gcnt_12, gcnt_13, gcnt_16]; omega)) rfl rfl (by omega) (by decide) dX8_now_133 ?_
                rw [h 0 (by omega)]
                refine r_iret hR dX8_now_134 ?_
                first
                | (omega)
                | (obtain rfl : i = aS A 3 := by omega
                   unfold Qm
                   rw [e]
                   refine ⟨congrArg (fun z => some (Value.int (nI z))) ?_, hc, keepC.rf M⟩
                   (repeat' split) <;> first | rfl | omega)
              · skip
                by_cases e1 : n = 1
                · refine r_swInN hR 1 e1 (by decide) 135 dX8_now_88 (by decide) (by decide) rfl (by decide) ?_
                  refine r_iload2 hR dX8_now_135 ?_
                  refine r_iret hR dX8_now_136 ?_
                  first
                  | (omega)
                  | (obtain rfl : i = aS A 3 := by omega
                     unfold Qm
                     rw [e]
                     refine ⟨congrArg (fun z => some (Value.int (nI z))) ?_, hc, keepC.rf M⟩
                     (repeat' split) <;> first | rfl | omega)
                · skip
                  by_cases e2 : n = 2
                  · refine r_swInN hR 2 e2 (by decide) 137 dX8_now_88 (by decide) (by decide) rfl (by decide) ?_
                    refine r_aload0 hR dX8_now_137 ?_
                    refine r_get hR (by first | decide | assumption | (simp only [gcnt_4, gcnt_1, gcnt_2, gcnt_3, gcnt_12, gcnt_13, gcnt_16]; omega)) fl_X8_9 rfl rfl dX8_now_138 ?_
                    refine r_iconst hR (nI 1) (by decide) dX8_now_141 ?_
                    refine r_iload1 hR dX8_now_142 ?_
                    refine r_iadd hR dX8_now_143 ?_
                    try rw [nI_add]
                    refine r_iconst hR (nI 2) (by decide) dX8_now_144 ?_
                    refine r_isubN hR (by omega) dX8_now_145 ?_
                    refine r_iald hR (by first | decide | assumption | (simp only [gcnt_4, gcnt_1, gcnt_2, gcnt_3, gcnt_12, gcnt_13, gcnt_16]; omega)) rfl rfl (by omega) (by decide) dX8_now_146 ?_
                    rw [h _ (by omega)]
                    first | rw [show 1 + n - 2 = 1 by omega] | rw [show 1 + n - 2 = 2 by omega]
                    refine r_iret hR dX8_now_147 ?_
                    first
                    | (omega)
                    | (obtain rfl : i = aS A 3 := by omega
                       unfold Qm
                       rw [e]
                       refine ⟨congrArg (fun z => some (Value.int (nI z))) ?_, hc, keepC.rf M⟩
                       (repeat' split) <;> first | rfl | omega)
                  · skip
                    by_cases e3 : n = 3
                    · refine r_swInN hR 3 e3 (by decide) 137 dX8_now_88 (by decide) (by decide) rfl (by decide) ?_
                      refine r_aload0 hR dX8_now_137 ?_
                      refine r_get hR (by first | decide | assumption | (simp only [gcnt_4, gcnt_1, gcnt_2, gcnt_3, gcnt_12, gcnt_13, gcnt_16]; omega)) fl_X8_9 rfl rfl dX8_now_138 ?_
                      refine r_iconst hR (nI 1) (by decide) dX8_now_141 ?_
                      refine r_iload1 hR dX8_now_142 ?_
                      refine r_iadd hR dX8_now_143 ?_
                      try rw [nI_add]
                      refine r_iconst hR (nI 2) (by decide) dX8_now_144 ?_
                      refine r_isubN hR (by omega) dX8_now_145 ?_
                      refine r_iald hR (by first | decide | assumption | (simp only [gcnt_4, gcnt_1, gcnt_2, gcnt_3, gcnt_12, gcnt_13, gcnt_16]; omega)) rfl rfl (by omega) (by decide) dX8_now_146 ?_
                      rw [h _ (by omega)]
                      first | rw [show 1 + n - 2 = 1 by omega] | rw [show 1 + n - 2 = 2 by omega]
                      refine r_iret hR dX8_now_147 ?_
                      first
                      | (omega)
                      | (obtain rfl : i = aS A 3 := by omega
                         unfold Qm
                         rw [e]
                         refine ⟨congrArg (fun z => some (Value.int (nI z))) ?_, hc, keepC.rf M⟩
                         (repeat' split) <;> first | rfl | omega)
                    · skip
                      by_cases e4 : n = 4
                      · refine r_swInN hR 4 e4 (by decide) 148 dX8_now_88 (by decide) (by decide) rfl (by decide) ?_
                        refine r_aload0 hR dX8_now_148 ?_
                        refine r_cv0v hR kv_X8_116 (by decide) (t_X8_sums h hwf) (by first | decide | assumption | (simp only [gcnt_4, gcnt_1, gcnt_2, gcnt_3, gcnt_12, gcnt_13, gcnt_16]; omega)) rfl rfl (Nat.le_of_ble_eq_true rfl) dX8_now_149 ?_
                        refine r_iret hR dX8_now_152 ?_
                        first
                        | (omega)
                        | (obtain rfl : i = aS A 3 := by omega
                           unfold Qm
                           rw [e]
                           refine ⟨congrArg (fun z => some (Value.int (nI z))) ?_, hc, keepC.rf M⟩
                           (repeat' split) <;> first | rfl | omega)
                      · skip
                        by_cases e5 : n = 5
                        · refine r_swInN hR 5 e5 (by decide) 153 dX8_now_88 (by decide) (by decide) rfl (by decide) ?_
                          refine r_iload3 hR dX8_now_153 ?_
                          refine r_iret hR dX8_now_154 ?_
                          first
                          | (omega)
                          | (obtain rfl : i = aS A 3 := by omega
                             unfold Qm
                             rw [e]
                             refine ⟨congrArg (fun z => some (Value.int (nI z))) ?_, hc, keepC.rf M⟩
                             (repeat' split) <;> first | rfl | omega)
                        · skip
                          refine r_swOutN hR (k := n) (by omega) 155 dX8_now_88 (by omega) (by decide) ?_
                          refine r_iload4 hR dX8_now_155 ?_
                          refine r_iret hR dX8_now_157 ?_
                          first
                          | (omega)
                          | (obtain rfl : i = aS A 3 := by omega
                             unfold Qm
                             rw [e]
                             refine ⟨congrArg (fun z => some (Value.int (nI z))) ?_, hc, keepC.rf M⟩
                             (repeat' split) <;> first | rfl | omega)
          · try simp (disch := omega) only [nI_ltI, nI_leI, nI_eq, bI_0, Decidable.not_not, lc_lt, lc_gt, lc_ge, lc_le, lc_eq, i64_toInt] at c45
            try simp (disch := omega) only [cv_lt, cv_le, cv_eq, nI_toInt, cv_0] at c45
            first
            | omega
            | refine r_iload3 hR dX8_now_48 ?_
              refine r_aload0 hR dX8_now_49 ?_
              refine r_iload5 hR dX8_now_50 ?_
              refine r_iload2 hR dX8_now_52 ?_
              refine r_cv2v hR kv_X8_100 (by decide) (t_X8_earns h hwf (by omega) (by have := blow_le (S := aS A) (d := aS A 0) wr; omega)) (by first | decide | assumption | (simp only [gcnt_4, gcnt_1, gcnt_2, gcnt_3, gcnt_12, gcnt_13, gcnt_16]; omega)) rfl rfl (Nat.le_of_ble_eq_true rfl) dX8_now_53 ?_
              refine r_iadd hR dX8_now_56 ?_
              try rw [nI_add]
              refine r_istore3 hR (fun _ h => by first | (cases h; rfl) | exact absurd h (by simp)) dX8_now_57 ?_
              refine r_iload4 hR dX8_now_58 ?_
              refine r_aload0 hR dX8_now_60 ?_
              refine r_iload5 hR dX8_now_61 ?_
              refine r_iload2 hR dX8_now_63 ?_
              refine r_cv2v hR kv_X8_85 (by decide) (t_X8_doesGo h hwf (by omega) (by have := blow_le (S := aS A) (d := aS A 0) wr; omega)) (by first | decide | assumption | (simp only [gcnt_4, gcnt_1, gcnt_2, gcnt_3, gcnt_12, gcnt_13, gcnt_16]; omega)) rfl rfl (Nat.le_of_ble_eq_true rfl) dX8_now_64 ?_
              refine r_if_eq hR 77 dX8_now_67 (by decide) (fun c67 => ?_) (fun c67 => ?_)
              · try simp (disch := omega) only [nI_ltI, nI_leI, nI_eq, bI_0, Decidable.not_not, lc_lt, lc_gt, lc_ge, lc_le, lc_eq, i64_toInt] at c67
                try simp (disch := omega) only [cv_lt, cv_le, cv_eq, nI_toInt, cv_0] at c67
                first
                | omega
                | refine r_iconst hR (nI 0) (by decide) dX8_now_77 ?_
                  refine r_ior hR dX8_now_78 ?_
                  rw [nx_or]
                  refine r_istore4 hR (fun _ h => by first | (cases h; rfl) | exact absurd h (by simp)) dX8_now_79 ?_
                  refine r_iinc5 hR (nI 1) (by decide) (fun _ h => by first | (cases h; rfl) | exact absurd h (by simp)) dX8_now_81 ?_
                  try rw [nI_add]
                  refine r_goto hR 37 dX8_now_84 (by decide) ?_
                  omega
              · try simp (disch := omega) only [nI_ltI, nI_leI, nI_eq, bI_0, Decidable.not_not, lc_lt, lc_gt, lc_ge, lc_le, lc_eq, i64_toInt] at c67
                try simp (disch := omega) only [cv_lt, cv_le, cv_eq, nI_toInt, cv_0] at c67
                first
                | omega
                | refine r_iconst hR (nI 1) (by decide) dX8_now_70 ?_
                  refine r_iload5 hR dX8_now_71 ?_
                  refine r_ishl hR dX8_now_73 ?_
                  rw [shl_t i (by omega)]
                  refine r_goto hR 78 dX8_now_74 (by decide) ?_
                  refine r_ior hR dX8_now_78 ?_
                  rw [nx_or]
                  refine r_istore4 hR (fun _ h => by first | (cases h; rfl) | exact absurd h (by simp)) dX8_now_79 ?_
                  refine r_iinc5 hR (nI 1) (by decide) (fun _ h => by first | (cases h; rfl) | exact absurd h (by simp)) dX8_now_81 ?_
                  try rw [nI_add]
                  refine r_goto hR 37 dX8_now_84 (by decide) ?_
                  omega
        | succ j ih =>
          intro i  hij 
          refine r_iload5 hR dX8_now_37 ?_
          refine r_aload0 hR dX8_now_39 ?_
          refine r_get hR (by first | decide | assumption | (simp only [gcnt_4, gcnt_1, gcnt_2, gcnt_3, gcnt_12, gcnt_13, gcnt_16]; omega)) fl_X8_9 rfl rfl dX8_now_40 ?_
          refine r_iconst hR (nI 3) (by decide) dX8_now_43 ?_
          refine r_iald hR (by first | decide | assumption | (simp only [gcnt_4, gcnt_1, gcnt_2, gcnt_3, gcnt_12, gcnt_13, gcnt_16]; omega)) rfl rfl (by omega) (by decide) dX8_now_44 ?_
          rw [h 3 (by omega)]
          refine r_icmp_ge hR 87 dX8_now_45 (by decide) (fun c45 => ?_) (fun c45 => ?_)
          · try simp (disch := omega) only [nI_ltI, nI_leI, nI_eq, bI_0, Decidable.not_not, lc_lt, lc_gt, lc_ge, lc_le, lc_eq, i64_toInt] at c45
            try simp (disch := omega) only [cv_lt, cv_le, cv_eq, nI_toInt, cv_0] at c45
            first
            | omega
            | refine r_iload1 hR dX8_now_87 ?_
              by_cases e0 : n = 0
              · refine r_swInN hR 0 e0 (by decide) 128 dX8_now_88 (by decide) (by decide) rfl (by decide) ?_
                refine r_aload0 hR dX8_now_128 ?_
                refine r_get hR (by first | decide | assumption | (simp only [gcnt_4, gcnt_1, gcnt_2, gcnt_3, gcnt_12, gcnt_13, gcnt_16]; omega)) fl_X8_9 rfl rfl dX8_now_129 ?_
                refine r_iconst hR (nI 0) (by decide) dX8_now_132 ?_
                refine r_iald hR (by first | decide | assumption | (simp only [gcnt_4, gcnt_1, gcnt_2, gcnt_3, gcnt_12, gcnt_13, gcnt_16]; omega)) rfl rfl (by omega) (by decide) dX8_now_133 ?_
                rw [h 0 (by omega)]
                refine r_iret hR dX8_now_134 ?_
                first
                | (omega)
                | (obtain rfl : i = aS A 3 := by omega
                   unfold Qm
                   rw [e]
                   refine ⟨congrArg (fun z => some (Value.int (nI z))) ?_, hc, keepC.rf M⟩
                   (repeat' split) <;> first | rfl | omega)
              · skip
                by_cases e1 : n = 1
                · refine r_swInN hR 1 e1 (by decide) 135 dX8_now_88 (by decide) (by decide) rfl (by decide) ?_
                  refine r_iload2 hR dX8_now_135 ?_
                  refine r_iret hR dX8_now_136 ?_
                  first
                  | (omega)
                  | (obtain rfl : i = aS A 3 := by omega
                     unfold Qm
                     rw [e]
                     refine ⟨congrArg (fun z => some (Value.int (nI z))) ?_, hc, keepC.rf M⟩
                     (repeat' split) <;> first | rfl | omega)
                · skip
                  by_cases e2 : n = 2
                  · refine r_swInN hR 2 e2 (by decide) 137 dX8_now_88 (by decide) (by decide) rfl (by decide) ?_
                    refine r_aload0 hR dX8_now_137 ?_
                    refine r_get hR (by first | decide | assumption | (simp only [gcnt_4, gcnt_1, gcnt_2, gcnt_3, gcnt_12, gcnt_13, gcnt_16]; omega)) fl_X8_9 rfl rfl dX8_now_138 ?_
                    refine r_iconst hR (nI 1) (by decide) dX8_now_141 ?_
                    refine r_iload1 hR dX8_now_142 ?_
                    refine r_iadd hR dX8_now_143 ?_
                    try rw [nI_add]
                    refine r_iconst hR (nI 2) (by decide) dX8_now_144 ?_
                    refine r_isubN hR (by omega) dX8_now_145 ?_
                    refine r_iald hR (by first | decide | assumption | (simp only [gcnt_4, gcnt_1, gcnt_2, gcnt_3, gcnt_12, gcnt_13, gcnt_16]; omega)) rfl rfl (by omega) (by decide) dX8_now_146 ?_
                    rw [h _ (by omega)]
                    first | rw [show 1 + n - 2 = 1 by omega] | rw [show 1 + n - 2 = 2 by omega]
                    refine r_iret hR dX8_now_147 ?_
                    first
                    | (omega)
                    | (obtain rfl : i = aS A 3 := by omega
                       unfold Qm
                       rw [e]
                       refine ⟨congrArg (fun z => some (Value.int (nI z))) ?_, hc, keepC.rf M⟩
                       (repeat' split) <;> first | rfl | omega)
                  · skip
                    by_cases e3 : n = 3
                    · refine r_swInN hR 3 e3 (by decide) 137 dX8_now_88 (by decide) (by decide) rfl (by decide) ?_
                      refine r_aload0 hR dX8_now_137 ?_
                      refine r_get hR (by first | decide | assumption | (simp only [gcnt_4, gcnt_1, gcnt_2, gcnt_3, gcnt_12, gcnt_13, gcnt_16]; omega)) fl_X8_9 rfl rfl dX8_now_138 ?_
                      refine r_iconst hR (nI 1) (by decide) dX8_now_141 ?_
                      refine r_iload1 hR dX8_now_142 ?_
                      refine r_iadd hR dX8_now_143 ?_
                      try rw [nI_add]
                      refine r_iconst hR (nI 2) (by decide) dX8_now_144 ?_
                      refine r_isubN hR (by omega) dX8_now_145 ?_
                      refine r_iald hR (by first | decide | assumption | (simp only [gcnt_4, gcnt_1, gcnt_2, gcnt_3, gcnt_12, gcnt_13, gcnt_16]; omega)) rfl rfl (by omega) (by decide) dX8_now_146 ?_
                      rw [h _ (by omega)]
                      first | rw [show 1 + n - 2 = 1 by omega] | rw [show 1 + n - 2 = 2 by omega]
                      refine r_iret hR dX8_now_147 ?_
                      first
                      | (omega)
                      | (obtain rfl : i = aS A 3 := by omega
                         unfold Qm
                         rw [e]
                         refine ⟨congrArg (fun z => some (Value.int (nI z))) ?_, hc, keepC.rf M⟩
                         (repeat' split) <;> first | rfl | omega)
                    · skip
                      by_cases e4 : n = 4
                      · refine r_swInN hR 4 e4 (by decide) 148 dX8_now_88 (by decide) (by decide) rfl (by decide) ?_
                        refine r_aload0 hR dX8_now_148 ?_
                        refine r_cv0v hR kv_X8_116 (by decide) (t_X8_sums h hwf) (by first | decide | assumption | (simp only [gcnt_4, gcnt_1, gcnt_2, gcnt_3, gcnt_12, gcnt_13, gcnt_16]; omega)) rfl rfl (Nat.le_of_ble_eq_true rfl) dX8_now_149 ?_
                        refine r_iret hR dX8_now_152 ?_
                        first
                        | (omega)
                        | (obtain rfl : i = aS A 3 := by omega
                           unfold Qm
                           rw [e]
                           refine ⟨congrArg (fun z => some (Value.int (nI z))) ?_, hc, keepC.rf M⟩
                           (repeat' split) <;> first | rfl | omega)
                      · skip
                        by_cases e5 : n = 5
                        · refine r_swInN hR 5 e5 (by decide) 153 dX8_now_88 (by decide) (by decide) rfl (by decide) ?_
                          refine r_iload3 hR dX8_now_153 ?_
                          refine r_iret hR dX8_now_154 ?_
                          first
                          | (omega)
                          | (obtain rfl : i = aS A 3 := by omega
                             unfold Qm
                             rw [e]
                             refine ⟨congrArg (fun z => some (Value.int (nI z))) ?_, hc, keepC.rf M⟩
                             (repeat' split) <;> first | rfl | omega)
                        · skip
                          refine r_swOutN hR (k := n) (by omega) 155 dX8_now_88 (by omega) (by decide) ?_
                          refine r_iload4 hR dX8_now_155 ?_
                          refine r_iret hR dX8_now_157 ?_
                          first
                          | (omega)
                          | (obtain rfl : i = aS A 3 := by omega
                             unfold Qm
                             rw [e]
                             refine ⟨congrArg (fun z => some (Value.int (nI z))) ?_, hc, keepC.rf M⟩
                             (repeat' split) <;> first | rfl | omega)
          · try simp (disch := omega) only [nI_ltI, nI_leI, nI_eq, bI_0, Decidable.not_not, lc_lt, lc_gt, lc_ge, lc_le, lc_eq, i64_toInt] at c45
            try simp (disch := omega) only [cv_lt, cv_le, cv_eq, nI_toInt, cv_0] at c45
            first
            | omega
            | refine r_iload3 hR dX8_now_48 ?_
              refine r_aload0 hR dX8_now_49 ?_
              refine r_iload5 hR dX8_now_50 ?_
              refine r_iload2 hR dX8_now_52 ?_
              refine r_cv2v hR kv_X8_100 (by decide) (t_X8_earns h hwf (by omega) (by have := blow_le (S := aS A) (d := aS A 0) wr; omega)) (by first | decide | assumption | (simp only [gcnt_4, gcnt_1, gcnt_2, gcnt_3, gcnt_12, gcnt_13, gcnt_16]; omega)) rfl rfl (Nat.le_of_ble_eq_true rfl) dX8_now_53 ?_
              refine r_iadd hR dX8_now_56 ?_
              try rw [nI_add]
              refine r_istore3 hR (fun _ h => by first | (cases h; rfl) | exact absurd h (by simp)) dX8_now_57 ?_
              refine r_iload4 hR dX8_now_58 ?_
              refine r_aload0 hR dX8_now_60 ?_
              refine r_iload5 hR dX8_now_61 ?_
              refine r_iload2 hR dX8_now_63 ?_
              refine r_cv2v hR kv_X8_85 (by decide) (t_X8_doesGo h hwf (by omega) (by have := blow_le (S := aS A) (d := aS A 0) wr; omega)) (by first | decide | assumption | (simp only [gcnt_4, gcnt_1, gcnt_2, gcnt_3, gcnt_12, gcnt_13, gcnt_16]; omega)) rfl rfl (Nat.le_of_ble_eq_true rfl) dX8_now_64 ?_
              refine r_if_eq hR 77 dX8_now_67 (by decide) (fun c67 => ?_) (fun c67 => ?_)
              · try simp (disch := omega) only [nI_ltI, nI_leI, nI_eq, bI_0, Decidable.not_not, lc_lt, lc_gt, lc_ge, lc_le, lc_eq, i64_toInt] at c67
                try simp (disch := omega) only [cv_lt, cv_le, cv_eq, nI_toInt, cv_0] at c67
                first
                | omega
                | refine r_iconst hR (nI 0) (by decide) dX8_now_77 ?_
                  refine r_ior hR dX8_now_78 ?_
                  rw [nx_or]
                  refine r_istore4 hR (fun _ h => by first | (cases h; rfl) | exact absurd h (by simp)) dX8_now_79 ?_
                  refine r_iinc5 hR (nI 1) (by decide) (fun _ h => by first | (cases h; rfl) | exact absurd h (by simp)) dX8_now_81 ?_
                  try rw [nI_add]
                  refine r_goto hR 37 dX8_now_84 (by decide) ?_
                  have e2 : goP (aS A) (blow (aS A) (aS A 0)) (i + 1) = goP (aS A) (blow (aS A) (aS A 0)) i ||| (if goN (thg (aS A) i 0) (thg (aS A) i 2) (aS A 1) (blow (aS A) (aS A 0)) then 2 ^ i else 0) := rfl
                  first
                  | (rw [if_pos c67] at e2
                     rw [← e2]
                     exact ih (i + 1) (by omega))
                  | (rw [if_neg c67] at e2
                     rw [← e2]
                     exact ih (i + 1) (by omega))
              · try simp (disch := omega) only [nI_ltI, nI_leI, nI_eq, bI_0, Decidable.not_not, lc_lt, lc_gt, lc_ge, lc_le, lc_eq, i64_toInt] at c67
                try simp (disch := omega) only [cv_lt, cv_le, cv_eq, nI_toInt, cv_0] at c67
                first
                | omega
                | refine r_iconst hR (nI 1) (by decide) dX8_now_70 ?_
                  refine r_iload5 hR dX8_now_71 ?_
                  refine r_ishl hR dX8_now_73 ?_
                  rw [shl_t i (by omega)]
                  refine r_goto hR 78 dX8_now_74 (by decide) ?_
                  refine r_ior hR dX8_now_78 ?_
                  rw [nx_or]
                  refine r_istore4 hR (fun _ h => by first | (cases h; rfl) | exact absurd h (by simp)) dX8_now_79 ?_
                  refine r_iinc5 hR (nI 1) (by decide) (fun _ h => by first | (cases h; rfl) | exact absurd h (by simp)) dX8_now_81 ?_
                  try rw [nI_add]
                  refine r_goto hR 37 dX8_now_84 (by decide) ?_
                  have e2 : goP (aS A) (blow (aS A) (aS A 0)) (i + 1) = goP (aS A) (blow (aS A) (aS A 0)) i ||| (if goN (thg (aS A) i 0) (thg (aS A) i 2) (aS A 1) (blow (aS A) (aS A 0)) then 2 ^ i else 0) := rfl
                  first
                  | (rw [if_pos c67] at e2
                     rw [← e2]
                     exact ih (i + 1) (by omega))
                  | (rw [if_neg c67] at e2
                     rw [← e2]
                     exact ih (i + 1) (by omega))
      refine r_aload0 hR dX8_now_18 ?_
      refine r_aload0 hR dX8_now_19 ?_
      refine r_get hR (by first | decide | assumption | (simp only [gcnt_4, gcnt_1, gcnt_2, gcnt_3, gcnt_12, gcnt_13, gcnt_16]; omega)) fl_X8_9 rfl rfl dX8_now_20 ?_
      refine r_iconst hR (nI 0) (by decide) dX8_now_23 ?_
      refine r_iald hR (by first | decide | assumption | (simp only [gcnt_4, gcnt_1, gcnt_2, gcnt_3, gcnt_12, gcnt_13, gcnt_16]; omega)) rfl rfl (by omega) (by decide) dX8_now_24 ?_
      rw [h 0 (by omega)]
      refine r_cv1v hR kv_X8_63 (by decide) (t_X8_blowing h hwf (by omega)) (by first | decide | assumption | (simp only [gcnt_4, gcnt_1, gcnt_2, gcnt_3, gcnt_12, gcnt_13, gcnt_16]; omega)) rfl rfl (Nat.le_of_ble_eq_true rfl) dX8_now_25 ?_
      refine r_istore2 hR (fun _ h => by first | (cases h; rfl) | exact absurd h (by simp)) dX8_now_28 ?_
      refine r_iconst hR (nI 0) (by decide) dX8_now_29 ?_
      refine r_istore3 hR (fun _ h => by first | (cases h; rfl) | exact absurd h (by simp)) dX8_now_30 ?_
      refine r_iconst hR (nI 0) (by decide) dX8_now_31 ?_
      refine r_istore4 hR (fun _ h => by first | (cases h; rfl) | exact absurd h (by simp)) dX8_now_32 ?_
      refine r_iconst hR (nI 0) (by decide) dX8_now_34 ?_
      refine r_istore5 hR (fun _ h => by first | (cases h; rfl) | exact absurd h (by simp)) dX8_now_35 ?_
      exact L (aS A 3) 0 (by omega)
  · try simp (disch := omega) only [nI_ltI, nI_leI, nI_eq, bI_0, Decidable.not_not, lc_lt, lc_gt, lc_ge, lc_le, lc_eq, i64_toInt] at c8
    try simp (disch := omega) only [cv_lt, cv_le, cv_eq, nI_toInt, cv_0] at c8
    first
    | omega
    | refine r_aload0 hR dX8_now_11 ?_
      refine r_ldc hR ct_X8_41 dX8_now_12 ?_
      refine r_cv1v hR kv_X8_43 (by decide) (t_X8_findsC (n := 0) (by decide) (by decide)) (by first | decide | assumption | (simp only [gcnt_4, gcnt_1, gcnt_2, gcnt_3, gcnt_12, gcnt_13, gcnt_16]; omega)) rfl rfl (Nat.le_of_ble_eq_true rfl) dX8_now_14 ?_
      refine r_iret hR dX8_now_17 ?_
      refine Qm_fnd hc (by decide) ?_
      unfold oNow
      dsimp only [okI, okT]
      (repeat' split) <;> first | rfl | omega

