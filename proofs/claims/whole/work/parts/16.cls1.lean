theorem t_X7_findingC {G : gG} {M : gM} {c : Int32} {n : Nat} (hc : c = -1000000001 - nI n) (hn : n < 7) : Cf G mX7_finding 1 [.ref (ad G 0 0), .int c] M (some (.int (-1000000001 - nI n))) (seti M 14 0 n (M.1 14 0 n + nI 1)) := by
  subst hc
  exact t_X7_finding hn
theorem sea_o {M : gM} {q : Nat} {S : Nat → Nat} (h : seaP M q S) {d v : Nat} (hd : d < 7) : seti M 2 q d (nI v) = putSea M q (va_up S (4 + d) v) := by
  have e := putSn_seti_o M q S (S 3) (v := v) hd
  rw [show putSn M q S (S 3) = M from putSn_id h] at e
  rw [e]
  show _ = putSn M q _ (va_up S (4 + d) v 3)
  rw [vu_o (by omega)]
theorem sea_f {M : gM} {q : Nat} {S : Nat → Nat} (h : seaP M q S) {v : Nat} : seti M 1 q 3 (nI v) = putSea M q (va_up S 1 v) := by
  have e := putSn_seti_f M q S (S 3) v
  rw [show putSn M q S (S 3) = M from putSn_id h] at e
  exact e
theorem sea_t {M : gM} {q : Nat} {S : Nat → Nat} (h : seaP M q S) {t w v : Nat} (ht : t < S 3) (hw : w < 4) : seti M 4 (8 * q + t) w (nI v) = putSea M q (va_up S (11 + 4 * t + w) v) := by
  have e := putSn_seti_t M q S (n := S 3) (v := v) ht hw
  rw [show putSn M q S (S 3) = M from putSn_id h] at e
  rw [e]
  show _ = putSn M q _ (va_up S (11 + 4 * t + w) v 3)
  rw [vu_o (by omega)]
set_option maxHeartbeats 4000000 in
set_option maxRecDepth 100000 in
theorem t_X7_rota {G : gG} {M : gM} {A : gA} {x y : Int32} (hc : clsP M A) (hw : wfA A) : Ct G mX7_rota 2 [.ref (ad G 0 0), .int x, .int y] M (Qc M (oRota A x y)) := by
  obtain ⟨hwf, hday, hwk, hk2, hl, hT, hsh⟩ := id hw
  obtain ⟨w0, w1, w2, w3, wr, wt⟩ := id hwf
  obtain ⟨s0, s2, s3, s4, sr, sth⟩ := id hc.1
  have hK8 : ak A = 1 → aK A 3 ≤ 8 := fun z => (hwk z).1.2.2.2.1
  refine Ct.of (by decide +kernel) (k := 1) (ls0 := [some (.ref (ad G 0 0)), some (.int x), some (.int y), none]) rfl rfl (fun _ _ => trivial) ?_
  intro P hR
  refine r_iload1 hR dX7_rota_0 ?_
  refine r_bipush hR (nI 6) (by decide) dX7_rota_1 ?_
  refine r_cs2v hR ks_X7_77 (by decide) (t_X7_within) (Nat.le_of_ble_eq_true rfl) dX7_rota_3 ?_
  refine r_if_eq hR 18 dX7_rota_6 (by decide) (fun c6 => ?_) (fun c6 => ?_)
  · try simp (disch := omega) only [nI_ltI, nI_leI, nI_eq, bI_0, Decidable.not_not, lc_lt, lc_gt, lc_ge, lc_le, lc_eq, i64_toInt] at c6
    try simp (disch := omega) only [cv_lt, cv_le, cv_eq, nI_toInt, cv_0] at c6
    first
    | omega
    | refine r_aload0 hR dX7_rota_18 ?_
      refine r_ldc hR ct_X7_81 dX7_rota_19 ?_
      refine r_cv1v hR kv_X7_82 (by decide) (t_X7_findingC (n := 0) (by decide) (by decide)) (by first | decide | assumption | (simp only [gcnt_4, gcnt_1, gcnt_2, gcnt_3, gcnt_12, gcnt_13, gcnt_16]; omega)) rfl rfl (Nat.le_of_ble_eq_true rfl) dX7_rota_21 ?_
      refine r_iret hR dX7_rota_24 ?_
      refine Qc_fnd hc (by decide) ?_
      unfold oRota
      dsimp only [okI, okT]
      (repeat' split) <;> first | rfl | omega
  · try simp (disch := omega) only [nI_ltI, nI_leI, nI_eq, bI_0, Decidable.not_not, lc_lt, lc_gt, lc_ge, lc_le, lc_eq, i64_toInt] at c6
    try simp (disch := omega) only [cv_lt, cv_le, cv_eq, nI_toInt, cv_0] at c6
    first
    | omega
    | refine r_iload2 hR dX7_rota_9 ?_
      refine r_bipush hR (nI 8) (by decide) dX7_rota_10 ?_
      refine r_cs2v hR ks_X7_77 (by decide) (t_X7_within) (Nat.le_of_ble_eq_true rfl) dX7_rota_12 ?_
      refine r_if_ne hR 25 dX7_rota_15 (by decide) (fun c15 => ?_) (fun c15 => ?_)
      · try simp (disch := omega) only [nI_ltI, nI_leI, nI_eq, bI_0, Decidable.not_not, lc_lt, lc_gt, lc_ge, lc_le, lc_eq, i64_toInt] at c15
        try simp (disch := omega) only [cv_lt, cv_le, cv_eq, nI_toInt, cv_0] at c15
        first
        | omega
        | obtain ⟨d, hd, rfl⟩ := of_in (x := x) (N := 6) (by omega)
          obtain ⟨w, hw, rfl⟩ := of_in (x := y) (N := 8) (by omega)
          refine r_aload0 hR dX7_rota_25 ?_
          refine r_get hR (by first | decide | assumption | (simp only [gcnt_4, gcnt_1, gcnt_2, gcnt_3, gcnt_12, gcnt_13, gcnt_16]; omega)) fl_X7_10 rfl rfl dX7_rota_26 ?_
          try simp only [s0, s2, s3, s4]
          refine r_get hR (by first | decide | assumption | (simp only [gcnt_4, gcnt_1, gcnt_2, gcnt_3, gcnt_12, gcnt_13, gcnt_16]; omega)) fl_X7_86 rfl rfl dX7_rota_29 ?_
          try simp only [s0, s2, s3, s4]
          refine r_iload1 hR dX7_rota_32 ?_
          refine r_iald hR (by first | decide | assumption | (simp only [gcnt_4, gcnt_1, gcnt_2, gcnt_3, gcnt_12, gcnt_13, gcnt_16]; omega)) rfl rfl (by omega) (by decide) dX7_rota_33 ?_
          try simp only [s0, s2, s3, s4]
          rw [sr d (by omega)]
          refine r_istore3 hR (fun _ h => by first | (cases h; rfl) | exact absurd h (by simp)) dX7_rota_34 ?_
          refine r_aload0 hR dX7_rota_35 ?_
          refine r_get hR (by first | decide | assumption | (simp only [gcnt_4, gcnt_1, gcnt_2, gcnt_3, gcnt_12, gcnt_13, gcnt_16]; omega)) fl_X7_10 rfl rfl dX7_rota_36 ?_
          try simp only [s0, s2, s3, s4]
          refine r_get hR (by first | decide | assumption | (simp only [gcnt_4, gcnt_1, gcnt_2, gcnt_3, gcnt_12, gcnt_13, gcnt_16]; omega)) fl_X7_86 rfl rfl dX7_rota_39 ?_
          try simp only [s0, s2, s3, s4]
          refine r_iload1 hR dX7_rota_42 ?_
          refine r_iload2 hR dX7_rota_43 ?_
          refine r_iast hR (by first | decide | assumption | (simp only [gcnt_4, gcnt_1, gcnt_2, gcnt_3, gcnt_12, gcnt_13, gcnt_16]; omega)) (fun _ => rfl) rfl (by omega) (by decide) dX7_rota_44 ?_
          refine r_iload3 hR dX7_rota_45 ?_
          refine r_iret hR dX7_rota_46 ?_
          have e : oRota A (nI d) (nI w) = (nI (aS A (4 + d)), sS A (va_up (aS A) (4 + d) w)) := by
            unfold oRota
            rw [if_pos (by simp (disch := omega) only [okI, okT, nI_toInt]; omega)]
            simp (disch := omega) only [uN_nI]
          unfold Qc
          rw [e]
          refine ⟨rfl, ?_, keepM_seti M _ _ _ (by decide)⟩
          rw [sea_o hc.1 (by omega)]
          exact clsP_sea hc (by rw [vu_o (by omega)]; exact w3) hK8
      · try simp (disch := omega) only [nI_ltI, nI_leI, nI_eq, bI_0, Decidable.not_not, lc_lt, lc_gt, lc_ge, lc_le, lc_eq, i64_toInt] at c15
        try simp (disch := omega) only [cv_lt, cv_le, cv_eq, nI_toInt, cv_0] at c15
        first
        | omega
        | refine r_aload0 hR dX7_rota_18 ?_
          refine r_ldc hR ct_X7_81 dX7_rota_19 ?_
          refine r_cv1v hR kv_X7_82 (by decide) (t_X7_findingC (n := 0) (by decide) (by decide)) (by first | decide | assumption | (simp only [gcnt_4, gcnt_1, gcnt_2, gcnt_3, gcnt_12, gcnt_13, gcnt_16]; omega)) rfl rfl (Nat.le_of_ble_eq_true rfl) dX7_rota_21 ?_
          refine r_iret hR dX7_rota_24 ?_
          refine Qc_fnd hc (by decide) ?_
          unfold oRota
          dsimp only [okI, okT]
          (repeat' split) <;> first | rfl | omega

set_option maxHeartbeats 4000000 in
set_option maxRecDepth 100000 in
theorem t_X7_rotaOf {G : gG} {M : gM} {A : gA} {x : Int32} (hc : clsP M A) (hw : wfA A) : Ct G mX7_rotaOf 2 [.ref (ad G 0 0), .int x] M (Qc M (oRotaOf A x)) := by
  obtain ⟨hwf, hday, hwk, hk2, hl, hT, hsh⟩ := id hw
  obtain ⟨w0, w1, w2, w3, wr, wt⟩ := id hwf
  obtain ⟨s0, s2, s3, s4, sr, sth⟩ := id hc.1
  have hK8 : ak A = 1 → aK A 3 ≤ 8 := fun z => (hwk z).1.2.2.2.1
  refine Ct.of (by decide +kernel) (k := 0) (ls0 := [some (.ref (ad G 0 0)), some (.int x)]) rfl rfl (fun _ _ => trivial) ?_
  intro P hR
  refine r_iload1 hR dX7_rotaOf_0 ?_
  refine r_bipush hR (nI 6) (by decide) dX7_rotaOf_1 ?_
  refine r_cs2v hR ks_X7_77 (by decide) (t_X7_within) (Nat.le_of_ble_eq_true rfl) dX7_rotaOf_3 ?_
  refine r_if_ne hR 16 dX7_rotaOf_6 (by decide) (fun c6 => ?_) (fun c6 => ?_)
  · try simp (disch := omega) only [nI_ltI, nI_leI, nI_eq, bI_0, Decidable.not_not, lc_lt, lc_gt, lc_ge, lc_le, lc_eq, i64_toInt] at c6
    try simp (disch := omega) only [cv_lt, cv_le, cv_eq, nI_toInt, cv_0] at c6
    first
    | omega
    | obtain ⟨d, hd, rfl⟩ := of_in (x := x) (N := 6) (by omega)
      refine r_aload0 hR dX7_rotaOf_16 ?_
      refine r_get hR (by first | decide | assumption | (simp only [gcnt_4, gcnt_1, gcnt_2, gcnt_3, gcnt_12, gcnt_13, gcnt_16]; omega)) fl_X7_10 rfl rfl dX7_rotaOf_17 ?_
      try simp only [s0, s2, s3, s4]
      refine r_get hR (by first | decide | assumption | (simp only [gcnt_4, gcnt_1, gcnt_2, gcnt_3, gcnt_12, gcnt_13, gcnt_16]; omega)) fl_X7_86 rfl rfl dX7_rotaOf_20 ?_
      try simp only [s0, s2, s3, s4]
      refine r_iload1 hR dX7_rotaOf_23 ?_
      refine r_iald hR (by first | decide | assumption | (simp only [gcnt_4, gcnt_1, gcnt_2, gcnt_3, gcnt_12, gcnt_13, gcnt_16]; omega)) rfl rfl (by omega) (by decide) dX7_rotaOf_24 ?_
      try simp only [s0, s2, s3, s4]
      rw [sr d (by omega)]
      refine r_iret hR dX7_rotaOf_25 ?_
      have e : oRotaOf A (nI d) = (nI (aS A (4 + d)), A) := by
        unfold oRotaOf
        rw [if_pos (by simp (disch := omega) only [okI, okT, nI_toInt]; omega)]
        simp (disch := omega) only [uN_nI]
      unfold Qc
      rw [e]
      exact ⟨rfl, hc, keepM.rf M⟩
  · try simp (disch := omega) only [nI_ltI, nI_leI, nI_eq, bI_0, Decidable.not_not, lc_lt, lc_gt, lc_ge, lc_le, lc_eq, i64_toInt] at c6
    try simp (disch := omega) only [cv_lt, cv_le, cv_eq, nI_toInt, cv_0] at c6
    first
    | omega
    | refine r_aload0 hR dX7_rotaOf_9 ?_
      refine r_ldc hR ct_X7_81 dX7_rotaOf_10 ?_
      refine r_cv1v hR kv_X7_82 (by decide) (t_X7_findingC (n := 0) (by decide) (by decide)) (by first | decide | assumption | (simp only [gcnt_4, gcnt_1, gcnt_2, gcnt_3, gcnt_12, gcnt_13, gcnt_16]; omega)) rfl rfl (Nat.le_of_ble_eq_true rfl) dX7_rotaOf_12 ?_
      refine r_iret hR dX7_rotaOf_15 ?_
      refine Qc_fnd hc (by decide) ?_
      unfold oRotaOf
      dsimp only [okI, okT]
      (repeat' split) <;> first | rfl | omega

set_option maxHeartbeats 4000000 in
set_option maxRecDepth 100000 in
theorem t_X7_blows {G : gG} {M : gM} {A : gA} {x : Int32} (hc : clsP M A) (hw : wfA A) : Ct G mX7_blows 3 [.ref (ad G 0 0), .int x] M (Qc M (oBlows A x)) := by
  obtain ⟨hwf, hday, hwk, hk2, hl, hT, hsh⟩ := id hw
  obtain ⟨w0, w1, w2, w3, wr, wt⟩ := id hwf
  obtain ⟨s0, s2, s3, s4, sr, sth⟩ := id hc.1
  have hK8 : ak A = 1 → aK A 3 ≤ 8 := fun z => (hwk z).1.2.2.2.1
  refine Ct.of (by decide +kernel) (k := 0) (ls0 := [some (.ref (ad G 0 0)), some (.int x)]) rfl rfl (fun _ _ => trivial) ?_
  intro P hR
  refine r_iload1 hR dX7_blows_0 ?_
  refine r_sipush hR (nI 9999) (by decide) dX7_blows_1 ?_
  refine r_cs2v hR ks_X7_77 (by decide) (t_X7_within) (Nat.le_of_ble_eq_true rfl) dX7_blows_4 ?_
  refine r_if_ne hR 17 dX7_blows_7 (by decide) (fun c7 => ?_) (fun c7 => ?_)
  · try simp (disch := omega) only [nI_ltI, nI_leI, nI_eq, bI_0, Decidable.not_not, lc_lt, lc_gt, lc_ge, lc_le, lc_eq, i64_toInt] at c7
    try simp (disch := omega) only [cv_lt, cv_le, cv_eq, nI_toInt, cv_0] at c7
    first
    | omega
    | obtain ⟨d, hd, rfl⟩ := of_in (x := x) (N := 9999) (by omega)
      refine r_aload0 hR dX7_blows_17 ?_
      refine r_get hR (by first | decide | assumption | (simp only [gcnt_4, gcnt_1, gcnt_2, gcnt_3, gcnt_12, gcnt_13, gcnt_16]; omega)) fl_X7_10 rfl rfl dX7_blows_18 ?_
      try simp only [s0, s2, s3, s4]
      refine r_iload1 hR dX7_blows_21 ?_
      refine r_cv1v hR kv_X7_101 (by decide) (t_X1_windOn (by decide) hc.1 hwf (by omega)) (by first | decide | assumption | (simp only [gcnt_4, gcnt_1, gcnt_2, gcnt_3, gcnt_12, gcnt_13, gcnt_16]; omega)) rfl rfl (Nat.le_of_ble_eq_true rfl) dX7_blows_22 ?_
      refine r_iret hR dX7_blows_25 ?_
      have e : oBlows A (nI d) = (nI (blow (aS A) d), A) := by
        unfold oBlows
        rw [if_pos (by simp (disch := omega) only [okI, okT, nI_toInt]; omega)]
        simp (disch := omega) only [uN_nI]
      unfold Qc
      rw [e]
      exact ⟨rfl, hc, keepM.rf M⟩
  · try simp (disch := omega) only [nI_ltI, nI_leI, nI_eq, bI_0, Decidable.not_not, lc_lt, lc_gt, lc_ge, lc_le, lc_eq, i64_toInt] at c7
    try simp (disch := omega) only [cv_lt, cv_le, cv_eq, nI_toInt, cv_0] at c7
    first
    | omega
    | refine r_aload0 hR dX7_blows_10 ?_
      refine r_ldc hR ct_X7_81 dX7_blows_11 ?_
      refine r_cv1v hR kv_X7_82 (by decide) (t_X7_findingC (n := 0) (by decide) (by decide)) (by first | decide | assumption | (simp only [gcnt_4, gcnt_1, gcnt_2, gcnt_3, gcnt_12, gcnt_13, gcnt_16]; omega)) rfl rfl (Nat.le_of_ble_eq_true rfl) dX7_blows_13 ?_
      refine r_iret hR dX7_blows_16 ?_
      refine Qc_fnd hc (by decide) ?_
      unfold oBlows
      dsimp only [okI, okT]
      (repeat' split) <;> first | rfl | omega

set_option maxHeartbeats 4000000 in
set_option maxRecDepth 100000 in
theorem t_X7_force {G : gG} {M : gM} {A : gA} {x : Int32} (hc : clsP M A) (hw : wfA A) : Ct G mX7_force 2 [.ref (ad G 0 0), .int x] M (Qc M (oForce A x)) := by
  obtain ⟨hwf, hday, hwk, hk2, hl, hT, hsh⟩ := id hw
  obtain ⟨w0, w1, w2, w3, wr, wt⟩ := id hwf
  obtain ⟨s0, s2, s3, s4, sr, sth⟩ := id hc.1
  have hK8 : ak A = 1 → aK A 3 ≤ 8 := fun z => (hwk z).1.2.2.2.1
  refine Ct.of (by decide +kernel) (k := 1) (ls0 := [some (.ref (ad G 0 0)), some (.int x), none]) rfl rfl (fun _ _ => trivial) ?_
  intro P hR
  refine r_iload1 hR dX7_force_0 ?_
  refine r_bipush hR (nI 9) (by decide) dX7_force_1 ?_
  refine r_cs2v hR ks_X7_77 (by decide) (t_X7_within) (Nat.le_of_ble_eq_true rfl) dX7_force_3 ?_
  refine r_if_ne hR 16 dX7_force_6 (by decide) (fun c6 => ?_) (fun c6 => ?_)
  · try simp (disch := omega) only [nI_ltI, nI_leI, nI_eq, bI_0, Decidable.not_not, lc_lt, lc_gt, lc_ge, lc_le, lc_eq, i64_toInt] at c6
    try simp (disch := omega) only [cv_lt, cv_le, cv_eq, nI_toInt, cv_0] at c6
    first
    | omega
    | obtain ⟨d, hd, rfl⟩ := of_in (x := x) (N := 9) (by omega)
      refine r_aload0 hR dX7_force_16 ?_
      refine r_get hR (by first | decide | assumption | (simp only [gcnt_4, gcnt_1, gcnt_2, gcnt_3, gcnt_12, gcnt_13, gcnt_16]; omega)) fl_X7_10 rfl rfl dX7_force_17 ?_
      try simp only [s0, s2, s3, s4]
      refine r_get hR (by first | decide | assumption | (simp only [gcnt_4, gcnt_1, gcnt_2, gcnt_3, gcnt_12, gcnt_13, gcnt_16]; omega)) fl_X7_97 rfl rfl dX7_force_20 ?_
      try simp only [s0, s2, s3, s4]
      refine r_istore2 hR (fun _ h => by first | (cases h; rfl) | exact absurd h (by simp)) dX7_force_23 ?_
      refine r_aload0 hR dX7_force_24 ?_
      refine r_get hR (by first | decide | assumption | (simp only [gcnt_4, gcnt_1, gcnt_2, gcnt_3, gcnt_12, gcnt_13, gcnt_16]; omega)) fl_X7_10 rfl rfl dX7_force_25 ?_
      try simp only [s0, s2, s3, s4]
      refine r_iload1 hR dX7_force_28 ?_
      refine r_puti hR (by first | decide | assumption | (simp only [gcnt_4, gcnt_1, gcnt_2, gcnt_3, gcnt_12, gcnt_13, gcnt_16]; omega)) fp_X7_97 rfl rfl (Nat.le_of_ble_eq_true rfl) rfl rfl dX7_force_29 ?_
      refine r_iload2 hR dX7_force_32 ?_
      refine r_iret hR dX7_force_33 ?_
      have e : oForce A (nI d) = (nI (aS A 1), sS A (va_up (aS A) 1 d)) := by
        unfold oForce
        rw [if_pos (by simp (disch := omega) only [okI, okT, nI_toInt]; omega)]
        simp (disch := omega) only [uN_nI]
      unfold Qc
      rw [e]
      refine ⟨rfl, ?_, keepM_seti M _ _ _ (by decide)⟩
      rw [sea_f hc.1]
      exact clsP_sea hc (by rw [vu_o (by omega)]; exact w3) hK8
  · try simp (disch := omega) only [nI_ltI, nI_leI, nI_eq, bI_0, Decidable.not_not, lc_lt, lc_gt, lc_ge, lc_le, lc_eq, i64_toInt] at c6
    try simp (disch := omega) only [cv_lt, cv_le, cv_eq, nI_toInt, cv_0] at c6
    first
    | omega
    | refine r_aload0 hR dX7_force_9 ?_
      refine r_ldc hR ct_X7_81 dX7_force_10 ?_
      refine r_cv1v hR kv_X7_82 (by decide) (t_X7_findingC (n := 0) (by decide) (by decide)) (by first | decide | assumption | (simp only [gcnt_4, gcnt_1, gcnt_2, gcnt_3, gcnt_12, gcnt_13, gcnt_16]; omega)) rfl rfl (Nat.le_of_ble_eq_true rfl) dX7_force_12 ?_
      refine r_iret hR dX7_force_15 ?_
      refine Qc_fnd hc (by decide) ?_
      unfold oForce
      dsimp only [okI, okT]
      (repeat' split) <;> first | rfl | omega

set_option maxHeartbeats 4000000 in
set_option maxRecDepth 100000 in
theorem t_X7_sick {G : gG} {M : gM} {A : gA} {x y : Int32} (hc : clsP M A) (hw : wfA A) : Ct G mX7_sick 2 [.ref (ad G 0 0), .int x, .int y] M (Qc M (oSick A x y)) := by
  obtain ⟨hwf, hday, hwk, hk2, hl, hT, hsh⟩ := id hw
  obtain ⟨w0, w1, w2, w3, wr, wt⟩ := id hwf
  obtain ⟨s0, s2, s3, s4, sr, sth⟩ := id hc.1
  have hK8 : ak A = 1 → aK A 3 ≤ 8 := fun z => (hwk z).1.2.2.2.1
  refine Ct.of (by decide +kernel) (k := 1) (ls0 := [some (.ref (ad G 0 0)), some (.int x), some (.int y), none]) rfl rfl (fun _ _ => trivial) ?_
  intro P hR
  refine r_iload1 hR dX7_sick_0 ?_
  refine r_bipush hR (nI 7) (by decide) dX7_sick_1 ?_
  refine r_cs2v hR ks_X7_77 (by decide) (t_X7_within) (Nat.le_of_ble_eq_true rfl) dX7_sick_3 ?_
  refine r_if_eq hR 17 dX7_sick_6 (by decide) (fun c6 => ?_) (fun c6 => ?_)
  · try simp (disch := omega) only [nI_ltI, nI_leI, nI_eq, bI_0, Decidable.not_not, lc_lt, lc_gt, lc_ge, lc_le, lc_eq, i64_toInt] at c6
    try simp (disch := omega) only [cv_lt, cv_le, cv_eq, nI_toInt, cv_0] at c6
    first
    | omega
    | refine r_aload0 hR dX7_sick_17 ?_
      refine r_ldc hR ct_X7_81 dX7_sick_18 ?_
      refine r_cv1v hR kv_X7_82 (by decide) (t_X7_findingC (n := 0) (by decide) (by decide)) (by first | decide | assumption | (simp only [gcnt_4, gcnt_1, gcnt_2, gcnt_3, gcnt_12, gcnt_13, gcnt_16]; omega)) rfl rfl (Nat.le_of_ble_eq_true rfl) dX7_sick_20 ?_
      refine r_iret hR dX7_sick_23 ?_
      refine Qc_fnd hc (by decide) ?_
      unfold oSick
      dsimp only [okI, okT]
      (repeat' split) <;> first | rfl | omega
  · try simp (disch := omega) only [nI_ltI, nI_leI, nI_eq, bI_0, Decidable.not_not, lc_lt, lc_gt, lc_ge, lc_le, lc_eq, i64_toInt] at c6
    try simp (disch := omega) only [cv_lt, cv_le, cv_eq, nI_toInt, cv_0] at c6
    first
    | omega
    | refine r_iload2 hR dX7_sick_9 ?_
      refine r_iconst hR (nI 1) (by decide) dX7_sick_10 ?_
      refine r_cs2v hR ks_X7_77 (by decide) (t_X7_within) (Nat.le_of_ble_eq_true rfl) dX7_sick_11 ?_
      refine r_if_ne hR 24 dX7_sick_14 (by decide) (fun c14 => ?_) (fun c14 => ?_)
      · try simp (disch := omega) only [nI_ltI, nI_leI, nI_eq, bI_0, Decidable.not_not, lc_lt, lc_gt, lc_ge, lc_le, lc_eq, i64_toInt] at c14
        try simp (disch := omega) only [cv_lt, cv_le, cv_eq, nI_toInt, cv_0] at c14
        first
        | omega
        | obtain ⟨d, hd, rfl⟩ := of_in (x := x) (N := 7) (by omega)
          obtain ⟨v, hv, rfl⟩ := of_in (x := y) (N := 1) (by omega)
          have J56 : P 56 [some (.ref (ad G 0 0)), some (.int (nI d)), some (.int (nI v)), some (.int (nI (if (aS A 2).testBit d then 1 else 0)))] [.int (nI v), .int (nI d), .ref (ad G 1 0)] M := by
            refine r_cv2u hR kv_X7_93 (by decide) (t_X1_makeSick (by decide) hc.1 w2 (by omega) (by omega)) (by first | decide | assumption | (simp only [gcnt_4, gcnt_1, gcnt_2, gcnt_3, gcnt_12, gcnt_13, gcnt_16]; omega)) rfl rfl (Nat.le_of_ble_eq_true rfl) dX7_sick_56 ?_
            refine r_iload3 hR dX7_sick_59 ?_
            refine r_iret hR dX7_sick_60 ?_
            have e : oSick A (nI d) (nI v) = (nI (if (aS A 2).testBit d then 1 else 0), sS A (va_up (aS A) 2 (mkS (aS A 2) d v))) := by
              unfold oSick
              rw [if_pos (by simp (disch := omega) only [okI, okT, nI_toInt]; omega)]
              simp (disch := omega) only [uN_nI]
            unfold Qc
            rw [e]
            exact ⟨rfl, clsP_sea hc (by rw [vu_o (by omega)]; exact w3) hK8, keepM_put M _ _ _⟩
          have J40 : P 40 [some (.ref (ad G 0 0)), some (.int (nI d)), some (.int (nI v)), none] [.int (nI (if (aS A 2).testBit d then 1 else 0))] M := by
            refine r_istore3 hR (fun _ h => by first | (cases h; rfl) | exact absurd h (by simp)) dX7_sick_40 ?_
            refine r_aload0 hR dX7_sick_41 ?_
            refine r_get hR (by first | decide | assumption | (simp only [gcnt_4, gcnt_1, gcnt_2, gcnt_3, gcnt_12, gcnt_13, gcnt_16]; omega)) fl_X7_10 rfl rfl dX7_sick_42 ?_
            try simp only [s0, s2, s3, s4]
            refine r_iload1 hR dX7_sick_45 ?_
            refine r_iload2 hR dX7_sick_46 ?_
            refine r_iconst hR (nI 1) (by decide) dX7_sick_47 ?_
            refine r_icmp_ne hR 55 dX7_sick_48 (by decide) (fun c48 => ?_) (fun c48 => ?_)
            · try simp (disch := omega) only [nI_ltI, nI_leI, nI_eq, bI_0, Decidable.not_not, lc_lt, lc_gt, lc_ge, lc_le, lc_eq, i64_toInt] at c48
              try simp (disch := omega) only [cv_lt, cv_le, cv_eq, nI_toInt, cv_0] at c48
              first
              | omega
              | refine r_iconst hR (nI 0) (by decide) dX7_sick_55 ?_
                refine r_nm (nI v) (by rcases (show v = 0 ∨ v = 1 by omega) with rfl | rfl <;> first | rfl | omega) ?_
                exact J56
            · try simp (disch := omega) only [nI_ltI, nI_leI, nI_eq, bI_0, Decidable.not_not, lc_lt, lc_gt, lc_ge, lc_le, lc_eq, i64_toInt] at c48
              try simp (disch := omega) only [cv_lt, cv_le, cv_eq, nI_toInt, cv_0] at c48
              first
              | omega
              | refine r_iconst hR (nI 1) (by decide) dX7_sick_51 ?_
                refine r_goto hR 56 dX7_sick_52 (by decide) ?_
                refine r_nm (nI v) (by rcases (show v = 0 ∨ v = 1 by omega) with rfl | rfl <;> first | rfl | omega) ?_
                exact J56
          refine r_aload0 hR dX7_sick_24 ?_
          refine r_get hR (by first | decide | assumption | (simp only [gcnt_4, gcnt_1, gcnt_2, gcnt_3, gcnt_12, gcnt_13, gcnt_16]; omega)) fl_X7_10 rfl rfl dX7_sick_25 ?_
          try simp only [s0, s2, s3, s4]
          refine r_iload1 hR dX7_sick_28 ?_
          refine r_cv1v hR kv_X7_89 (by decide) (t_X1_isSick (by decide) hc.1 w2 (by omega)) (by first | decide | assumption | (simp only [gcnt_4, gcnt_1, gcnt_2, gcnt_3, gcnt_12, gcnt_13, gcnt_16]; omega)) rfl rfl (Nat.le_of_ble_eq_true rfl) dX7_sick_29 ?_
          refine r_if_eq hR 39 dX7_sick_32 (by decide) (fun c32 => ?_) (fun c32 => ?_)
          · try simp (disch := omega) only [nI_ltI, nI_leI, nI_eq, bI_0, Decidable.not_not, lc_lt, lc_gt, lc_ge, lc_le, lc_eq, i64_toInt] at c32
            try simp (disch := omega) only [cv_lt, cv_le, cv_eq, nI_toInt, cv_0] at c32
            first
            | omega
            | refine r_iconst hR (nI 0) (by decide) dX7_sick_39 ?_
              first
              | (rw [if_pos c32] at J40; exact J40)
              | (rw [if_neg c32] at J40; exact J40)
          · try simp (disch := omega) only [nI_ltI, nI_leI, nI_eq, bI_0, Decidable.not_not, lc_lt, lc_gt, lc_ge, lc_le, lc_eq, i64_toInt] at c32
            try simp (disch := omega) only [cv_lt, cv_le, cv_eq, nI_toInt, cv_0] at c32
            first
            | omega
            | refine r_iconst hR (nI 1) (by decide) dX7_sick_35 ?_
              refine r_goto hR 40 dX7_sick_36 (by decide) ?_
              first
              | (rw [if_pos c32] at J40; exact J40)
              | (rw [if_neg c32] at J40; exact J40)
      · try simp (disch := omega) only [nI_ltI, nI_leI, nI_eq, bI_0, Decidable.not_not, lc_lt, lc_gt, lc_ge, lc_le, lc_eq, i64_toInt] at c14
        try simp (disch := omega) only [cv_lt, cv_le, cv_eq, nI_toInt, cv_0] at c14
        first
        | omega
        | refine r_aload0 hR dX7_sick_17 ?_
          refine r_ldc hR ct_X7_81 dX7_sick_18 ?_
          refine r_cv1v hR kv_X7_82 (by decide) (t_X7_findingC (n := 0) (by decide) (by decide)) (by first | decide | assumption | (simp only [gcnt_4, gcnt_1, gcnt_2, gcnt_3, gcnt_12, gcnt_13, gcnt_16]; omega)) rfl rfl (Nat.le_of_ble_eq_true rfl) dX7_sick_20 ?_
          refine r_iret hR dX7_sick_23 ?_
          refine Qc_fnd hc (by decide) ?_
          unfold oSick
          dsimp only [okI, okT]
          (repeat' split) <;> first | rfl | omega

set_option maxHeartbeats 4000000 in
set_option maxRecDepth 100000 in
theorem t_X7_lee {G : gG} {M : gM} {A : gA} {x y : Int32} (hc : clsP M A) (hw : wfA A) : Ct G mX7_lee 2 [.ref (ad G 0 0), .int x, .int y] M (Qc M (oLee A x y)) := by
  obtain ⟨hwf, hday, hwk, hk2, hl, hT, hsh⟩ := id hw
  obtain ⟨w0, w1, w2, w3, wr, wt⟩ := id hwf
  obtain ⟨s0, s2, s3, s4, sr, sth⟩ := id hc.1
  have hK8 : ak A = 1 → aK A 3 ≤ 8 := fun z => (hwk z).1.2.2.2.1
  refine Ct.of (by decide +kernel) (k := 1) (ls0 := [some (.ref (ad G 0 0)), some (.int x), some (.int y), none]) rfl rfl (fun _ _ => trivial) ?_
  intro P hR
  refine r_iload1 hR dX7_lee_0 ?_
  refine r_bipush hR (nI 35) (by decide) dX7_lee_1 ?_
  refine r_cs2v hR ks_X7_77 (by decide) (t_X7_within) (Nat.le_of_ble_eq_true rfl) dX7_lee_3 ?_
  refine r_if_eq hR 18 dX7_lee_6 (by decide) (fun c6 => ?_) (fun c6 => ?_)
  · try simp (disch := omega) only [nI_ltI, nI_leI, nI_eq, bI_0, Decidable.not_not, lc_lt, lc_gt, lc_ge, lc_le, lc_eq, i64_toInt] at c6
    try simp (disch := omega) only [cv_lt, cv_le, cv_eq, nI_toInt, cv_0] at c6
    first
    | omega
    | refine r_aload0 hR dX7_lee_18 ?_
      refine r_ldc hR ct_X7_81 dX7_lee_19 ?_
      refine r_cv1v hR kv_X7_82 (by decide) (t_X7_findingC (n := 0) (by decide) (by decide)) (by first | decide | assumption | (simp only [gcnt_4, gcnt_1, gcnt_2, gcnt_3, gcnt_12, gcnt_13, gcnt_16]; omega)) rfl rfl (Nat.le_of_ble_eq_true rfl) dX7_lee_21 ?_
      refine r_iret hR dX7_lee_24 ?_
      refine Qc_fnd hc (by decide) ?_
      unfold oLee
      dsimp only [okI, okT]
      (repeat' split) <;> first | rfl | omega
  · try simp (disch := omega) only [nI_ltI, nI_leI, nI_eq, bI_0, Decidable.not_not, lc_lt, lc_gt, lc_ge, lc_le, lc_eq, i64_toInt] at c6
    try simp (disch := omega) only [cv_lt, cv_le, cv_eq, nI_toInt, cv_0] at c6
    first
    | omega
    | refine r_iload2 hR dX7_lee_9 ?_
      refine r_bipush hR (nI 7) (by decide) dX7_lee_10 ?_
      refine r_cs2v hR ks_X7_77 (by decide) (t_X7_within) (Nat.le_of_ble_eq_true rfl) dX7_lee_12 ?_
      refine r_if_ne hR 25 dX7_lee_15 (by decide) (fun c15 => ?_) (fun c15 => ?_)
      · try simp (disch := omega) only [nI_ltI, nI_leI, nI_eq, bI_0, Decidable.not_not, lc_lt, lc_gt, lc_ge, lc_le, lc_eq, i64_toInt] at c15
        try simp (disch := omega) only [cv_lt, cv_le, cv_eq, nI_toInt, cv_0] at c15
        first
        | omega
        | obtain ⟨ce, hce, rfl⟩ := of_in (x := x) (N := 35) (by omega)
          obtain ⟨w, hw, rfl⟩ := of_in (x := y) (N := 7) (by omega)
          have hb := (bto_t ce (by omega) w (by omega)).1
          refine r_iload1 hR dX7_lee_25 ?_
          refine r_iload2 hR dX7_lee_26 ?_
          refine r_cs2v hR ks_X7_104 (by decide) (t_X7_cellBehind (by omega) (by omega)) (Nat.le_of_ble_eq_true rfl) dX7_lee_27 ?_
          obtain ⟨z, hz⟩ : ∃ z : Int32, z = (if bto ce w < 36 then nI (bto ce w) else -1) := ⟨_, rfl⟩
          rw [← hz]
          refine r_istore3 hR (fun _ h => by first | (cases h; rfl) | exact absurd h (by simp)) dX7_lee_30 ?_
          refine r_iload3 hR dX7_lee_31 ?_
          refine r_iconst hR (-1) (by decide) dX7_lee_32 ?_
          refine r_icmp_ne hR 45 dX7_lee_33 (by decide) (fun c33 => ?_) (fun c33 => ?_)
          · try simp (disch := omega) only [nI_ltI, nI_leI, nI_eq, bI_0, Decidable.not_not, lc_lt, lc_gt, lc_ge, lc_le, lc_eq, i64_toInt] at c33
            try simp (disch := omega) only [cv_lt, cv_le, cv_eq, nI_toInt, cv_0] at c33
            first
            | omega
            | have hb6 : bto ce w < 36 := by
                by_cases q : bto ce w < 36
                · exact q
                · rw [if_neg q] at hz
                  rw [hz] at c33
                  exact absurd rfl c33
              rw [if_pos hb6] at hz
              subst hz
              refine r_iload3 hR dX7_lee_45 ?_
              refine r_iret hR dX7_lee_46 ?_
              have e : oLee A (nI ce) (nI w) = if bto ce w < 36 then (nI (bto ce w), A) else fnd A 3 := by
                unfold oLee
                rw [if_pos (by simp (disch := omega) only [okI, nI_toInt]; omega)]
                simp (disch := omega) only [uN_nI]
              rw [e]
              first
              | (rw [if_pos hb6]; exact ⟨rfl, hc, keepM.rf M⟩)
              | (rw [if_neg hb6]; exact Qc_fnd hc (by decide) rfl)
          · try simp (disch := omega) only [nI_ltI, nI_leI, nI_eq, bI_0, Decidable.not_not, lc_lt, lc_gt, lc_ge, lc_le, lc_eq, i64_toInt] at c33
            try simp (disch := omega) only [cv_lt, cv_le, cv_eq, nI_toInt, cv_0] at c33
            first
            | omega
            | have hb6 : ¬ bto ce w < 36 := by
                intro q
                rw [if_pos q] at hz
                rw [hz] at c33
                have := nI_toInt (n := bto ce w) (by omega)
                rw [c33, show (-1 : Int32).toInt = -1 from by decide] at this
                omega
              refine r_aload0 hR dX7_lee_36 ?_
              refine r_ldc hR ct_X7_108 dX7_lee_37 ?_
              refine r_cv1v hR kv_X7_82 (by decide) (t_X7_findingC (n := 3) (by decide) (by decide)) (by first | decide | assumption | (simp only [gcnt_4, gcnt_1, gcnt_2, gcnt_3, gcnt_12, gcnt_13, gcnt_16]; omega)) rfl rfl (Nat.le_of_ble_eq_true rfl) dX7_lee_39 ?_
              refine r_goto hR 46 dX7_lee_42 (by decide) ?_
              refine r_iret hR dX7_lee_46 ?_
              have e : oLee A (nI ce) (nI w) = if bto ce w < 36 then (nI (bto ce w), A) else fnd A 3 := by
                unfold oLee
                rw [if_pos (by simp (disch := omega) only [okI, nI_toInt]; omega)]
                simp (disch := omega) only [uN_nI]
              rw [e]
              first
              | (rw [if_pos hb6]; exact ⟨rfl, hc, keepM.rf M⟩)
              | (rw [if_neg hb6]; exact Qc_fnd hc (by decide) rfl)
      · try simp (disch := omega) only [nI_ltI, nI_leI, nI_eq, bI_0, Decidable.not_not, lc_lt, lc_gt, lc_ge, lc_le, lc_eq, i64_toInt] at c15
        try simp (disch := omega) only [cv_lt, cv_le, cv_eq, nI_toInt, cv_0] at c15
        first
        | omega
        | refine r_aload0 hR dX7_lee_18 ?_
          refine r_ldc hR ct_X7_81 dX7_lee_19 ?_
          refine r_cv1v hR kv_X7_82 (by decide) (t_X7_findingC (n := 0) (by decide) (by decide)) (by first | decide | assumption | (simp only [gcnt_4, gcnt_1, gcnt_2, gcnt_3, gcnt_12, gcnt_13, gcnt_16]; omega)) rfl rfl (Nat.le_of_ble_eq_true rfl) dX7_lee_21 ?_
          refine r_iret hR dX7_lee_24 ?_
          refine Qc_fnd hc (by decide) ?_
          unfold oLee
          dsimp only [okI, okT]
          (repeat' split) <;> first | rfl | omega

set_option maxHeartbeats 4000000 in
set_option maxRecDepth 100000 in
theorem t_X7_thing {G : gG} {M : gM} {A : gA} {x y : Int32} (hc : clsP M A) (hw : wfA A) : Ct G mX7_thing 2 [.ref (ad G 0 0), .int x, .int y] M (Qc M (oThing A x y)) := by
  obtain ⟨hwf, hday, hwk, hk2, hl, hT, hsh⟩ := id hw
  obtain ⟨w0, w1, w2, w3, wr, wt⟩ := id hwf
  obtain ⟨s0, s2, s3, s4, sr, sth⟩ := id hc.1
  have hK8 : ak A = 1 → aK A 3 ≤ 8 := fun z => (hwk z).1.2.2.2.1
  refine Ct.of (by decide +kernel) (k := 0) (ls0 := [some (.ref (ad G 0 0)), some (.int x), some (.int y)]) rfl rfl (fun _ _ => trivial) ?_
  intro P hR
  refine r_iload1 hR dX7_thing_0 ?_
  refine r_iconst hR (nI 5) (by decide) dX7_thing_1 ?_
  refine r_cs2v hR ks_X7_77 (by decide) (t_X7_within) (Nat.le_of_ble_eq_true rfl) dX7_thing_2 ?_
  refine r_if_eq hR 17 dX7_thing_5 (by decide) (fun c5 => ?_) (fun c5 => ?_)
  · try simp (disch := omega) only [nI_ltI, nI_leI, nI_eq, bI_0, Decidable.not_not, lc_lt, lc_gt, lc_ge, lc_le, lc_eq, i64_toInt] at c5
    try simp (disch := omega) only [cv_lt, cv_le, cv_eq, nI_toInt, cv_0] at c5
    first
    | omega
    | refine r_aload0 hR dX7_thing_17 ?_
      refine r_ldc hR ct_X7_81 dX7_thing_18 ?_
      refine r_cv1v hR kv_X7_82 (by decide) (t_X7_findingC (n := 0) (by decide) (by decide)) (by first | decide | assumption | (simp only [gcnt_4, gcnt_1, gcnt_2, gcnt_3, gcnt_12, gcnt_13, gcnt_16]; omega)) rfl rfl (Nat.le_of_ble_eq_true rfl) dX7_thing_20 ?_
      refine r_iret hR dX7_thing_23 ?_
      refine Qc_fnd hc (by decide) ?_
      unfold oThing
      dsimp only [okI, okT]
      (repeat' split) <;> first | rfl | omega
  · try simp (disch := omega) only [nI_ltI, nI_leI, nI_eq, bI_0, Decidable.not_not, lc_lt, lc_gt, lc_ge, lc_le, lc_eq, i64_toInt] at c5
    try simp (disch := omega) only [cv_lt, cv_le, cv_eq, nI_toInt, cv_0] at c5
    first
    | omega
    | refine r_iload2 hR dX7_thing_8 ?_
      refine r_bipush hR (nI 35) (by decide) dX7_thing_9 ?_
      refine r_cs2v hR ks_X7_77 (by decide) (t_X7_within) (Nat.le_of_ble_eq_true rfl) dX7_thing_11 ?_
      refine r_if_ne hR 24 dX7_thing_14 (by decide) (fun c14 => ?_) (fun c14 => ?_)
      · try simp (disch := omega) only [nI_ltI, nI_leI, nI_eq, bI_0, Decidable.not_not, lc_lt, lc_gt, lc_ge, lc_le, lc_eq, i64_toInt] at c14
        try simp (disch := omega) only [cv_lt, cv_le, cv_eq, nI_toInt, cv_0] at c14
        first
        | omega
        | obtain ⟨k, hk, rfl⟩ := of_in (x := x) (N := 5) (by omega)
          obtain ⟨ce, hce, rfl⟩ := of_in (x := y) (N := 35) (by omega)
          have e : oThing A (nI k) (nI ce) = if aS A 3 = 8 then fnd A 1 else (nI (aS A 3), sS A (addS (aS A) k ce 0)) := by
            unfold oThing
            rw [if_pos (by simp (disch := omega) only [okI, nI_toInt]; omega)]
            simp (disch := omega) only [uN_nI]
          refine r_aload0 hR dX7_thing_24 ?_
          refine r_get hR (by first | decide | assumption | (simp only [gcnt_4, gcnt_1, gcnt_2, gcnt_3, gcnt_12, gcnt_13, gcnt_16]; omega)) fl_X7_10 rfl rfl dX7_thing_25 ?_
          try simp only [s0, s2, s3, s4]
          refine r_cv0v hR kv_X7_109 (by decide) (t_X1_isFull (by decide) hc.1 w3) (by first | decide | assumption | (simp only [gcnt_4, gcnt_1, gcnt_2, gcnt_3, gcnt_12, gcnt_13, gcnt_16]; omega)) rfl rfl (Nat.le_of_ble_eq_true rfl) dX7_thing_28 ?_
          refine r_if_eq hR 41 dX7_thing_31 (by decide) (fun c31 => ?_) (fun c31 => ?_)
          · try simp (disch := omega) only [nI_ltI, nI_leI, nI_eq, bI_0, Decidable.not_not, lc_lt, lc_gt, lc_ge, lc_le, lc_eq, i64_toInt] at c31
            try simp (disch := omega) only [cv_lt, cv_le, cv_eq, nI_toInt, cv_0] at c31
            first
            | omega
            | refine r_aload0 hR dX7_thing_41 ?_
              refine r_get hR (by first | decide | assumption | (simp only [gcnt_4, gcnt_1, gcnt_2, gcnt_3, gcnt_12, gcnt_13, gcnt_16]; omega)) fl_X7_10 rfl rfl dX7_thing_42 ?_
              try simp only [s0, s2, s3, s4]
              refine r_iload1 hR dX7_thing_45 ?_
              refine r_iload2 hR dX7_thing_46 ?_
              refine r_iconst hR (nI 0) (by decide) dX7_thing_47 ?_
              refine r_cv3u hR kv_X7_114 (by decide) (t_X1_add (by decide) hc.1 (by omega)) (by first | decide | assumption | (simp only [gcnt_4, gcnt_1, gcnt_2, gcnt_3, gcnt_12, gcnt_13, gcnt_16]; omega)) rfl rfl (Nat.le_of_ble_eq_true rfl) dX7_thing_48 ?_
              refine r_aload0 hR dX7_thing_51 ?_
              refine r_get hR (by first | decide | assumption | (simp only [gcnt_4, gcnt_1, gcnt_2, gcnt_3, gcnt_12, gcnt_13, gcnt_16]; omega)) fl_X7_10 rfl rfl dX7_thing_52 ?_
              try simp only [s0, s2, s3, s4]
              refine r_get hR (by first | decide | assumption | (simp only [gcnt_4, gcnt_1, gcnt_2, gcnt_3, gcnt_12, gcnt_13, gcnt_16]; omega)) fl_X7_118 rfl rfl dX7_thing_55 ?_
              try simp only [s0, s2, s3, s4]
              rw [putSn_c]
              refine r_iconst hR (nI 1) (by decide) dX7_thing_58 ?_
              refine r_isubN hR (show 1 ≤ aS A 3 + 1 by omega) dX7_thing_59 ?_
              refine r_iret hR dX7_thing_60 ?_
              rw [e, if_neg (by omega)]
              exact ⟨rfl, clsP_sea hc (show aS A 3 + 1 ≤ 8 by omega) hK8, keepM_put M _ _ _⟩
          · try simp (disch := omega) only [nI_ltI, nI_leI, nI_eq, bI_0, Decidable.not_not, lc_lt, lc_gt, lc_ge, lc_le, lc_eq, i64_toInt] at c31
            try simp (disch := omega) only [cv_lt, cv_le, cv_eq, nI_toInt, cv_0] at c31
            first
            | omega
            | refine r_aload0 hR dX7_thing_34 ?_
              refine r_ldc hR ct_X7_113 dX7_thing_35 ?_
              refine r_cv1v hR kv_X7_82 (by decide) (t_X7_findingC (n := 1) (by decide) (by decide)) (by first | decide | assumption | (simp only [gcnt_4, gcnt_1, gcnt_2, gcnt_3, gcnt_12, gcnt_13, gcnt_16]; omega)) rfl rfl (Nat.le_of_ble_eq_true rfl) dX7_thing_37 ?_
              refine r_iret hR dX7_thing_40 ?_
              rw [e, if_pos (by omega)]
              exact Qc_fnd hc (by decide) rfl
      · try simp (disch := omega) only [nI_ltI, nI_leI, nI_eq, bI_0, Decidable.not_not, lc_lt, lc_gt, lc_ge, lc_le, lc_eq, i64_toInt] at c14
        try simp (disch := omega) only [cv_lt, cv_le, cv_eq, nI_toInt, cv_0] at c14
        first
        | omega
        | refine r_aload0 hR dX7_thing_17 ?_
          refine r_ldc hR ct_X7_81 dX7_thing_18 ?_
          refine r_cv1v hR kv_X7_82 (by decide) (t_X7_findingC (n := 0) (by decide) (by decide)) (by first | decide | assumption | (simp only [gcnt_4, gcnt_1, gcnt_2, gcnt_3, gcnt_12, gcnt_13, gcnt_16]; omega)) rfl rfl (Nat.le_of_ble_eq_true rfl) dX7_thing_20 ?_
          refine r_iret hR dX7_thing_23 ?_
          refine Qc_fnd hc (by decide) ?_
          unfold oThing
          dsimp only [okI, okT]
          (repeat' split) <;> first | rfl | omega

set_option maxHeartbeats 4000000 in
set_option maxRecDepth 100000 in
theorem t_X7_of {G : gG} {M : gM} {A : gA} {x y : Int32} (hc : clsP M A) (hw : wfA A) : Ct G mX7_of 3 [.ref (ad G 0 0), .int x, .int y] M (Qc M (oOf A x y)) := by
  obtain ⟨hwf, hday, hwk, hk2, hl, hT, hsh⟩ := id hw
  obtain ⟨w0, w1, w2, w3, wr, wt⟩ := id hwf
  obtain ⟨s0, s2, s3, s4, sr, sth⟩ := id hc.1
  have hK8 : ak A = 1 → aK A 3 ≤ 8 := fun z => (hwk z).1.2.2.2.1
  refine Ct.of (by decide +kernel) (k := 2) (ls0 := [some (.ref (ad G 0 0)), some (.int x), some (.int y), none, none]) rfl rfl (fun _ _ => trivial) ?_
  intro P hR
  refine r_aload0 hR dX7_of_0 ?_
  refine r_get hR (by first | decide | assumption | (simp only [gcnt_4, gcnt_1, gcnt_2, gcnt_3, gcnt_12, gcnt_13, gcnt_16]; omega)) fl_X7_10 rfl rfl dX7_of_1 ?_
  try simp only [s0, s2, s3, s4]
  refine r_iload1 hR dX7_of_4 ?_
  refine r_cv1v hR kv_X7_121 (by decide) (t_X1_has (by decide) hc.1 w3) (by first | decide | assumption | (simp only [gcnt_4, gcnt_1, gcnt_2, gcnt_3, gcnt_12, gcnt_13, gcnt_16]; omega)) rfl rfl (Nat.le_of_ble_eq_true rfl) dX7_of_5 ?_
  refine r_if_eq hR 19 dX7_of_8 (by decide) (fun c8 => ?_) (fun c8 => ?_)
  · try simp (disch := omega) only [nI_ltI, nI_leI, nI_eq, bI_0, Decidable.not_not, lc_lt, lc_gt, lc_ge, lc_le, lc_eq, i64_toInt] at c8
    try simp (disch := omega) only [cv_lt, cv_le, cv_eq, nI_toInt, cv_0] at c8
    first
    | omega
    | refine r_aload0 hR dX7_of_19 ?_
      refine r_ldc hR ct_X7_81 dX7_of_20 ?_
      refine r_cv1v hR kv_X7_82 (by decide) (t_X7_findingC (n := 0) (by decide) (by decide)) (by first | decide | assumption | (simp only [gcnt_4, gcnt_1, gcnt_2, gcnt_3, gcnt_12, gcnt_13, gcnt_16]; omega)) rfl rfl (Nat.le_of_ble_eq_true rfl) dX7_of_22 ?_
      refine r_iret hR dX7_of_25 ?_
      refine Qc_fnd hc (by decide) ?_
      unfold oOf
      dsimp only [okI, okT]
      (repeat' split) <;> first | rfl | omega
  · try simp (disch := omega) only [nI_ltI, nI_leI, nI_eq, bI_0, Decidable.not_not, lc_lt, lc_gt, lc_ge, lc_le, lc_eq, i64_toInt] at c8
    try simp (disch := omega) only [cv_lt, cv_le, cv_eq, nI_toInt, cv_0] at c8
    first
    | omega
    | refine r_iload2 hR dX7_of_11 ?_
      refine r_iconst hR (nI 5) (by decide) dX7_of_12 ?_
      refine r_cs2v hR ks_X7_77 (by decide) (t_X7_within) (Nat.le_of_ble_eq_true rfl) dX7_of_13 ?_
      refine r_if_ne hR 26 dX7_of_16 (by decide) (fun c16 => ?_) (fun c16 => ?_)
      · try simp (disch := omega) only [nI_ltI, nI_leI, nI_eq, bI_0, Decidable.not_not, lc_lt, lc_gt, lc_ge, lc_le, lc_eq, i64_toInt] at c16
        try simp (disch := omega) only [cv_lt, cv_le, cv_eq, nI_toInt, cv_0] at c16
        first
        | omega
        | obtain ⟨n, hn, rfl⟩ := of_in (x := y) (N := 5) (by omega)
          obtain ⟨t, ht0, rfl⟩ := of_in (x := x) (N := aS A 3 - 1) (by omega)
          have htt : t < aS A 3 := by rw [nI_toInt (by omega)] at c8; omega
          have k0 : M.1 4 (8 * 0 + t) 0 = nI (thg (aS A) t 0) := sth t htt 0 (by decide)
          have k1 : M.1 4 (8 * 0 + t) 1 = nI (thg (aS A) t 1) := sth t htt 1 (by decide)
          have k2 : M.1 4 (8 * 0 + t) 2 = nI (thg (aS A) t 2) := sth t htt 2 (by decide)
          have k3 : M.1 4 (8 * 0 + t) 3 = nI (thg (aS A) t 3) := sth t htt 3 (by decide)
          have q0 : thg (aS A) t 0 < 6 := by have := wt t htt; unfold thg; rw [Nat.add_zero]; omega
          have q1 : thg (aS A) t 1 < 36 := by have := wt t htt; unfold thg; omega
          have q2 : thg (aS A) t 2 < 8 := by have := wt t htt; unfold thg; omega
          have q3 : thg (aS A) t 3 ≤ 99999 := by have := wt t htt; unfold thg; omega
          have e : oOf A (nI t) (nI n) = (nI (if n < 4 then thg (aS A) t n else if n = 4 then earN (thg (aS A) t 0) (thg (aS A) t 2) (aS A 1) (aS A 0) (blow (aS A) (aS A 0)) else if goN (thg (aS A) t 0) (thg (aS A) t 2) (aS A 1) (blow (aS A) (aS A 0)) then 1 else 0), A) := by
            unfold oOf
            rw [if_pos (by simp (disch := omega) only [okI, okT, nI_toInt]; omega)]
            simp (disch := omega) only [uN_nI]
          refine r_aload0 hR dX7_of_26 ?_
          refine r_get hR (by first | decide | assumption | (simp only [gcnt_4, gcnt_1, gcnt_2, gcnt_3, gcnt_12, gcnt_13, gcnt_16]; omega)) fl_X7_10 rfl rfl dX7_of_27 ?_
          try simp only [s0, s2, s3, s4]
          refine r_get hR (by first | decide | assumption | (simp only [gcnt_4, gcnt_1, gcnt_2, gcnt_3, gcnt_12, gcnt_13, gcnt_16]; omega)) fl_X7_124 rfl rfl dX7_of_30 ?_
          try simp only [s0, s2, s3, s4]
          refine r_iload1 hR dX7_of_33 ?_
          refine r_aald hR (t0 := 3) (by first | decide | assumption | (simp only [gcnt_4, gcnt_1, gcnt_2, gcnt_3, gcnt_12, gcnt_13, gcnt_16]; omega)) rfl rfl rfl (by omega) (by decide) rfl dX7_of_34 ?_
          refine r_astore3 hR (fun _ h => by first | (cases h; rfl) | exact absurd h (by simp)) dX7_of_35 ?_
          refine r_aload0 hR dX7_of_36 ?_
          refine r_get hR (by first | decide | assumption | (simp only [gcnt_4, gcnt_1, gcnt_2, gcnt_3, gcnt_12, gcnt_13, gcnt_16]; omega)) fl_X7_10 rfl rfl dX7_of_37 ?_
          try simp only [s0, s2, s3, s4]
          refine r_aload0 hR dX7_of_40 ?_
          refine r_get hR (by first | decide | assumption | (simp only [gcnt_4, gcnt_1, gcnt_2, gcnt_3, gcnt_12, gcnt_13, gcnt_16]; omega)) fl_X7_10 rfl rfl dX7_of_41 ?_
          try simp only [s0, s2, s3, s4]
          refine r_get hR (by first | decide | assumption | (simp only [gcnt_4, gcnt_1, gcnt_2, gcnt_3, gcnt_12, gcnt_13, gcnt_16]; omega)) fl_X7_128 rfl rfl dX7_of_44 ?_
          try simp only [s0, s2, s3, s4]
          refine r_cv1v hR kv_X7_101 (by decide) (t_X1_windOn (by decide) hc.1 hwf (by omega)) (by first | decide | assumption | (simp only [gcnt_4, gcnt_1, gcnt_2, gcnt_3, gcnt_12, gcnt_13, gcnt_16]; omega)) rfl rfl (Nat.le_of_ble_eq_true rfl) dX7_of_47 ?_
          refine r_istore4 hR (fun _ h => by first | (cases h; rfl) | exact absurd h (by simp)) dX7_of_50 ?_
          refine r_iload2 hR dX7_of_52 ?_
          by_cases e0 : n = 0
          · refine r_swInN hR 0 e0 (by decide) 88 dX7_of_53 (by decide) (by decide) rfl (by decide) ?_
            refine r_aload3 hR dX7_of_88 ?_
            refine r_get hR (by first | decide | assumption | (simp only [gcnt_4, gcnt_1, gcnt_2, gcnt_3, gcnt_12, gcnt_13, gcnt_16]; omega)) fl_X7_131 rfl rfl dX7_of_89 ?_
            try simp only [s0, s2, s3, s4]
            rw [k0]
            refine r_iret hR dX7_of_92 ?_
            unfold Qc
            rw [e]
            refine ⟨congrArg (fun z => some (Value.int (nI z))) ?_, hc, keepM.rf M⟩
            subst e0
            rfl
          · skip
            by_cases e1 : n = 1
            · refine r_swInN hR 1 e1 (by decide) 93 dX7_of_53 (by decide) (by decide) rfl (by decide) ?_
              refine r_aload3 hR dX7_of_93 ?_
              refine r_get hR (by first | decide | assumption | (simp only [gcnt_4, gcnt_1, gcnt_2, gcnt_3, gcnt_12, gcnt_13, gcnt_16]; omega)) fl_X7_134 rfl rfl dX7_of_94 ?_
              try simp only [s0, s2, s3, s4]
              rw [k1]
              refine r_iret hR dX7_of_97 ?_
              unfold Qc
              rw [e]
              refine ⟨congrArg (fun z => some (Value.int (nI z))) ?_, hc, keepM.rf M⟩
              subst e1
              rfl
            · skip
              by_cases e2 : n = 2
              · refine r_swInN hR 2 e2 (by decide) 98 dX7_of_53 (by decide) (by decide) rfl (by decide) ?_
                refine r_aload3 hR dX7_of_98 ?_
                refine r_get hR (by first | decide | assumption | (simp only [gcnt_4, gcnt_1, gcnt_2, gcnt_3, gcnt_12, gcnt_13, gcnt_16]; omega)) fl_X7_137 rfl rfl dX7_of_99 ?_
                try simp only [s0, s2, s3, s4]
                rw [k2]
                refine r_iret hR dX7_of_102 ?_
                unfold Qc
                rw [e]
                refine ⟨congrArg (fun z => some (Value.int (nI z))) ?_, hc, keepM.rf M⟩
                subst e2
                rfl
              · skip
                by_cases e3 : n = 3
                · refine r_swInN hR 3 e3 (by decide) 103 dX7_of_53 (by decide) (by decide) rfl (by decide) ?_
                  refine r_aload3 hR dX7_of_103 ?_
                  refine r_get hR (by first | decide | assumption | (simp only [gcnt_4, gcnt_1, gcnt_2, gcnt_3, gcnt_12, gcnt_13, gcnt_16]; omega)) fl_X7_140 rfl rfl dX7_of_104 ?_
                  try simp only [s0, s2, s3, s4]
                  rw [k3]
                  refine r_iret hR dX7_of_107 ?_
                  unfold Qc
                  rw [e]
                  refine ⟨congrArg (fun z => some (Value.int (nI z))) ?_, hc, keepM.rf M⟩
                  subst e3
                  rfl
                · skip
                  by_cases e4 : n = 4
                  · refine r_swInN hR 4 e4 (by decide) 108 dX7_of_53 (by decide) (by decide) rfl (by decide) ?_
                    refine r_aload3 hR dX7_of_108 ?_
                    refine r_aload0 hR dX7_of_109 ?_
                    refine r_get hR (by first | decide | assumption | (simp only [gcnt_4, gcnt_1, gcnt_2, gcnt_3, gcnt_12, gcnt_13, gcnt_16]; omega)) fl_X7_10 rfl rfl dX7_of_110 ?_
                    try simp only [s0, s2, s3, s4]
                    refine r_get hR (by first | decide | assumption | (simp only [gcnt_4, gcnt_1, gcnt_2, gcnt_3, gcnt_12, gcnt_13, gcnt_16]; omega)) fl_X7_128 rfl rfl dX7_of_113 ?_
                    try simp only [s0, s2, s3, s4]
                    refine r_iload4 hR dX7_of_116 ?_
                    refine r_aload0 hR dX7_of_118 ?_
                    refine r_get hR (by first | decide | assumption | (simp only [gcnt_4, gcnt_1, gcnt_2, gcnt_3, gcnt_12, gcnt_13, gcnt_16]; omega)) fl_X7_10 rfl rfl dX7_of_119 ?_
                    try simp only [s0, s2, s3, s4]
                    refine r_get hR (by first | decide | assumption | (simp only [gcnt_4, gcnt_1, gcnt_2, gcnt_3, gcnt_12, gcnt_13, gcnt_16]; omega)) fl_X7_97 rfl rfl dX7_of_122 ?_
                    try simp only [s0, s2, s3, s4]
                    refine r_cv3v hR kv_X7_143 (by decide) (t_X5_earnings (by omega) k0 k2 q0 q2 (by have := blow_le (d := aS A 0) wr; omega) w1 (by omega)) (by first | decide | assumption | (simp only [gcnt_4, gcnt_1, gcnt_2, gcnt_3, gcnt_12, gcnt_13, gcnt_16]; omega)) rfl rfl (Nat.le_of_ble_eq_true rfl) dX7_of_125 ?_
                    refine r_iret hR dX7_of_128 ?_
                    unfold Qc
                    rw [e]
                    refine ⟨congrArg (fun z => some (Value.int (nI z))) ?_, hc, keepM.rf M⟩
                    subst e4
                    rfl
                  · skip
                    refine r_swOutN hR (k := n) (by omega) 129 dX7_of_53 (by omega) (by decide) ?_
                    refine r_aload3 hR dX7_of_129 ?_
                    refine r_iload4 hR dX7_of_130 ?_
                    refine r_aload0 hR dX7_of_132 ?_
                    refine r_get hR (by first | decide | assumption | (simp only [gcnt_4, gcnt_1, gcnt_2, gcnt_3, gcnt_12, gcnt_13, gcnt_16]; omega)) fl_X7_10 rfl rfl dX7_of_133 ?_
                    try simp only [s0, s2, s3, s4]
                    refine r_get hR (by first | decide | assumption | (simp only [gcnt_4, gcnt_1, gcnt_2, gcnt_3, gcnt_12, gcnt_13, gcnt_16]; omega)) fl_X7_97 rfl rfl dX7_of_136 ?_
                    try simp only [s0, s2, s3, s4]
                    refine r_cv2v hR kv_X7_147 (by decide) (t_X5_isGoing (by omega) k0 k2 q0 q2 (by have := blow_le (d := aS A 0) wr; omega) w1) (by first | decide | assumption | (simp only [gcnt_4, gcnt_1, gcnt_2, gcnt_3, gcnt_12, gcnt_13, gcnt_16]; omega)) rfl rfl (Nat.le_of_ble_eq_true rfl) dX7_of_139 ?_
                    refine r_if_eq hR 149 dX7_of_142 (by decide) (fun c142 => ?_) (fun c142 => ?_)
                    · try simp (disch := omega) only [nI_ltI, nI_leI, nI_eq, bI_0, Decidable.not_not, lc_lt, lc_gt, lc_ge, lc_le, lc_eq, i64_toInt] at c142
                      try simp (disch := omega) only [cv_lt, cv_le, cv_eq, nI_toInt, cv_0] at c142
                      first
                      | omega
                      | refine r_iconst hR (nI 0) (by decide) dX7_of_149 ?_
                        refine r_iret hR dX7_of_150 ?_
                        unfold Qc
                        rw [e]
                        refine ⟨congrArg (fun z => some (Value.int (nI z))) ?_, hc, keepM.rf M⟩
                        rw [if_neg (by omega), if_neg (by omega)]
                        first
                        | (rw [if_pos c142])
                        | (rw [if_neg c142])
                    · try simp (disch := omega) only [nI_ltI, nI_leI, nI_eq, bI_0, Decidable.not_not, lc_lt, lc_gt, lc_ge, lc_le, lc_eq, i64_toInt] at c142
                      try simp (disch := omega) only [cv_lt, cv_le, cv_eq, nI_toInt, cv_0] at c142
                      first
                      | omega
                      | refine r_iconst hR (nI 1) (by decide) dX7_of_145 ?_
                        refine r_goto hR 150 dX7_of_146 (by decide) ?_
                        refine r_iret hR dX7_of_150 ?_
                        unfold Qc
                        rw [e]
                        refine ⟨congrArg (fun z => some (Value.int (nI z))) ?_, hc, keepM.rf M⟩
                        rw [if_neg (by omega), if_neg (by omega)]
                        first
                        | (rw [if_pos c142])
                        | (rw [if_neg c142])
      · try simp (disch := omega) only [nI_ltI, nI_leI, nI_eq, bI_0, Decidable.not_not, lc_lt, lc_gt, lc_ge, lc_le, lc_eq, i64_toInt] at c16
        try simp (disch := omega) only [cv_lt, cv_le, cv_eq, nI_toInt, cv_0] at c16
        first
        | omega
        | refine r_aload0 hR dX7_of_19 ?_
          refine r_ldc hR ct_X7_81 dX7_of_20 ?_
          refine r_cv1v hR kv_X7_82 (by decide) (t_X7_findingC (n := 0) (by decide) (by decide)) (by first | decide | assumption | (simp only [gcnt_4, gcnt_1, gcnt_2, gcnt_3, gcnt_12, gcnt_13, gcnt_16]; omega)) rfl rfl (Nat.le_of_ble_eq_true rfl) dX7_of_22 ?_
          refine r_iret hR dX7_of_25 ?_
          refine Qc_fnd hc (by decide) ?_
          unfold oOf
          dsimp only [okI, okT]
          (repeat' split) <;> first | rfl | omega

set_option maxHeartbeats 4000000 in
set_option maxRecDepth 100000 in
theorem t_X7_set {G : gG} {M : gM} {A : gA} {x y z : Int32} (hc : clsP M A) (hw : wfA A) : Ct G mX7_set 2 [.ref (ad G 0 0), .int x, .int y, .int z] M (Qc M (oSet A x y z)) := by
  obtain ⟨hwf, hday, hwk, hk2, hl, hT, hsh⟩ := id hw
  obtain ⟨w0, w1, w2, w3, wr, wt⟩ := id hwf
  obtain ⟨s0, s2, s3, s4, sr, sth⟩ := id hc.1
  have hK8 : ak A = 1 → aK A 3 ≤ 8 := fun z => (hwk z).1.2.2.2.1
  refine Ct.of (by decide +kernel) (k := 2) (ls0 := [some (.ref (ad G 0 0)), some (.int x), some (.int y), some (.int z), none, none]) rfl rfl (fun _ _ => trivial) ?_
  intro P hR
  refine r_aload0 hR dX7_set_0 ?_
  refine r_get hR (by first | decide | assumption | (simp only [gcnt_4, gcnt_1, gcnt_2, gcnt_3, gcnt_12, gcnt_13, gcnt_16]; omega)) fl_X7_10 rfl rfl dX7_set_1 ?_
  try simp only [s0, s2, s3, s4]
  refine r_iload1 hR dX7_set_4 ?_
  refine r_cv1v hR kv_X7_121 (by decide) (t_X1_has (by decide) hc.1 w3) (by first | decide | assumption | (simp only [gcnt_4, gcnt_1, gcnt_2, gcnt_3, gcnt_12, gcnt_13, gcnt_16]; omega)) rfl rfl (Nat.le_of_ble_eq_true rfl) dX7_set_5 ?_
  refine r_if_eq hR 32 dX7_set_8 (by decide) (fun c8 => ?_) (fun c8 => ?_)
  · try simp (disch := omega) only [nI_ltI, nI_leI, nI_eq, bI_0, Decidable.not_not, lc_lt, lc_gt, lc_ge, lc_le, lc_eq, i64_toInt] at c8
    try simp (disch := omega) only [cv_lt, cv_le, cv_eq, nI_toInt, cv_0] at c8
    first
    | omega
    | refine r_aload0 hR dX7_set_32 ?_
      refine r_ldc hR ct_X7_81 dX7_set_33 ?_
      refine r_cv1v hR kv_X7_82 (by decide) (t_X7_findingC (n := 0) (by decide) (by decide)) (by first | decide | assumption | (simp only [gcnt_4, gcnt_1, gcnt_2, gcnt_3, gcnt_12, gcnt_13, gcnt_16]; omega)) rfl rfl (Nat.le_of_ble_eq_true rfl) dX7_set_35 ?_
      refine r_iret hR dX7_set_38 ?_
      refine Qc_fnd hc (by decide) ?_
      unfold oSet
      refine if_neg ?_
      rintro ⟨g1, g2, g3⟩
      dsimp only [okI, okT] at g1 g2 g3
      try simp (disch := omega) only [nI_toInt, uN_nI, mostN] at *
      omega
  · try simp (disch := omega) only [nI_ltI, nI_leI, nI_eq, bI_0, Decidable.not_not, lc_lt, lc_gt, lc_ge, lc_le, lc_eq, i64_toInt] at c8
    try simp (disch := omega) only [cv_lt, cv_le, cv_eq, nI_toInt, cv_0] at c8
    first
    | omega
    | refine r_iload2 hR dX7_set_11 ?_
      refine r_iconst hR (nI 1) (by decide) dX7_set_12 ?_
      refine r_icmp_lt hR 32 dX7_set_13 (by decide) (fun c13 => ?_) (fun c13 => ?_)
      · try simp (disch := omega) only [nI_ltI, nI_leI, nI_eq, bI_0, Decidable.not_not, lc_lt, lc_gt, lc_ge, lc_le, lc_eq, i64_toInt] at c13
        try simp (disch := omega) only [cv_lt, cv_le, cv_eq, nI_toInt, cv_0] at c13
        first
        | omega
        | refine r_aload0 hR dX7_set_32 ?_
          refine r_ldc hR ct_X7_81 dX7_set_33 ?_
          refine r_cv1v hR kv_X7_82 (by decide) (t_X7_findingC (n := 0) (by decide) (by decide)) (by first | decide | assumption | (simp only [gcnt_4, gcnt_1, gcnt_2, gcnt_3, gcnt_12, gcnt_13, gcnt_16]; omega)) rfl rfl (Nat.le_of_ble_eq_true rfl) dX7_set_35 ?_
          refine r_iret hR dX7_set_38 ?_
          refine Qc_fnd hc (by decide) ?_
          unfold oSet
          refine if_neg ?_
          rintro ⟨g1, g2, g3⟩
          dsimp only [okI, okT] at g1 g2 g3
          try simp (disch := omega) only [nI_toInt, uN_nI, mostN] at *
          omega
      · try simp (disch := omega) only [nI_ltI, nI_leI, nI_eq, bI_0, Decidable.not_not, lc_lt, lc_gt, lc_ge, lc_le, lc_eq, i64_toInt] at c13
        try simp (disch := omega) only [cv_lt, cv_le, cv_eq, nI_toInt, cv_0] at c13
        first
        | omega
        | refine r_iload2 hR dX7_set_16 ?_
          refine r_iconst hR (nI 3) (by decide) dX7_set_17 ?_
          refine r_icmp_gt hR 32 dX7_set_18 (by decide) (fun c18 => ?_) (fun c18 => ?_)
          · try simp (disch := omega) only [nI_ltI, nI_leI, nI_eq, bI_0, Decidable.not_not, lc_lt, lc_gt, lc_ge, lc_le, lc_eq, i64_toInt] at c18
            try simp (disch := omega) only [cv_lt, cv_le, cv_eq, nI_toInt, cv_0] at c18
            first
            | omega
            | refine r_aload0 hR dX7_set_32 ?_
              refine r_ldc hR ct_X7_81 dX7_set_33 ?_
              refine r_cv1v hR kv_X7_82 (by decide) (t_X7_findingC (n := 0) (by decide) (by decide)) (by first | decide | assumption | (simp only [gcnt_4, gcnt_1, gcnt_2, gcnt_3, gcnt_12, gcnt_13, gcnt_16]; omega)) rfl rfl (Nat.le_of_ble_eq_true rfl) dX7_set_35 ?_
              refine r_iret hR dX7_set_38 ?_
              refine Qc_fnd hc (by decide) ?_
              unfold oSet
              refine if_neg ?_
              rintro ⟨g1, g2, g3⟩
              dsimp only [okI, okT] at g1 g2 g3
              try simp (disch := omega) only [nI_toInt, uN_nI, mostN] at *
              omega
          · try simp (disch := omega) only [nI_ltI, nI_leI, nI_eq, bI_0, Decidable.not_not, lc_lt, lc_gt, lc_ge, lc_le, lc_eq, i64_toInt] at c18
            try simp (disch := omega) only [cv_lt, cv_le, cv_eq, nI_toInt, cv_0] at c18
            first
            | omega
            | obtain ⟨n, hn, rfl⟩ := of_in (x := y) (N := 3) (by omega)
              simp (disch := omega) only [nI_toInt] at c13 c18
              have hmb : (if n = 1 then 35 else if n = 2 then 7 else 99999) ≤ 99999 := by split <;> (try split) <;> omega
              refine r_iload3 hR dX7_set_21 ?_
              refine r_iload2 hR dX7_set_22 ?_
              refine r_cs1v hR ks_X7_150 (by decide) (t_X7_mostOf (by omega)) (Nat.le_of_ble_eq_true rfl) dX7_set_23 ?_
              refine r_cs2v hR ks_X7_77 (by decide) (t_X7_within) (Nat.le_of_ble_eq_true rfl) dX7_set_26 ?_
              refine r_if_ne hR 39 dX7_set_29 (by decide) (fun c29 => ?_) (fun c29 => ?_)
              · try simp (disch := omega) only [nI_ltI, nI_leI, nI_eq, bI_0, Decidable.not_not, lc_lt, lc_gt, lc_ge, lc_le, lc_eq, i64_toInt] at c29
                try simp (disch := omega) only [cv_lt, cv_le, cv_eq, nI_toInt, cv_0] at c29
                first
                | omega
                | obtain ⟨t, ht0, rfl⟩ := of_in (x := x) (N := aS A 3 - 1) (by omega)
                  have htt : t < aS A 3 := by rw [nI_toInt (by omega)] at c8; omega
                  obtain ⟨v, hv, rfl⟩ := of_in (x := z) (N := (if n = 1 then 35 else if n = 2 then 7 else 99999)) (by omega)
                  have e : oSet A (nI t) (nI n) (nI v) = (nI (thg (aS A) t n), sS A (va_up (aS A) (11 + 4 * t + n) v)) := by
                    unfold oSet
                    rw [if_pos (by simp (disch := omega) only [okI, okT, nI_toInt, uN_nI, mostN]; simp (disch := omega) only [nI_toInt] at c29; omega)]
                    simp (disch := omega) only [uN_nI]
                  refine r_aload0 hR dX7_set_39 ?_
                  refine r_get hR (by first | decide | assumption | (simp only [gcnt_4, gcnt_1, gcnt_2, gcnt_3, gcnt_12, gcnt_13, gcnt_16]; omega)) fl_X7_10 rfl rfl dX7_set_40 ?_
                  try simp only [s0, s2, s3, s4]
                  refine r_get hR (by first | decide | assumption | (simp only [gcnt_4, gcnt_1, gcnt_2, gcnt_3, gcnt_12, gcnt_13, gcnt_16]; omega)) fl_X7_124 rfl rfl dX7_set_43 ?_
                  try simp only [s0, s2, s3, s4]
                  refine r_iload1 hR dX7_set_46 ?_
                  refine r_aald hR (t0 := 3) (by first | decide | assumption | (simp only [gcnt_4, gcnt_1, gcnt_2, gcnt_3, gcnt_12, gcnt_13, gcnt_16]; omega)) rfl rfl rfl (by omega) (by decide) rfl dX7_set_47 ?_
                  refine r_astore4 hR (fun _ h => by first | (cases h; rfl) | exact absurd h (by simp)) dX7_set_48 ?_
                  refine r_iload2 hR dX7_set_50 ?_
                  refine r_iconst hR (nI 1) (by decide) dX7_set_51 ?_
                  refine r_icmp_ne hR 71 dX7_set_52 (by decide) (fun c52 => ?_) (fun c52 => ?_)
                  · try simp (disch := omega) only [nI_ltI, nI_leI, nI_eq, bI_0, Decidable.not_not, lc_lt, lc_gt, lc_ge, lc_le, lc_eq, i64_toInt] at c52
                    try simp (disch := omega) only [cv_lt, cv_le, cv_eq, nI_toInt, cv_0] at c52
                    first
                    | omega
                    | refine r_iload2 hR dX7_set_71 ?_
                      refine r_iconst hR (nI 2) (by decide) dX7_set_72 ?_
                      refine r_icmp_ne hR 92 dX7_set_73 (by decide) (fun c73 => ?_) (fun c73 => ?_)
                      · try simp (disch := omega) only [nI_ltI, nI_leI, nI_eq, bI_0, Decidable.not_not, lc_lt, lc_gt, lc_ge, lc_le, lc_eq, i64_toInt] at c73
                        try simp (disch := omega) only [cv_lt, cv_le, cv_eq, nI_toInt, cv_0] at c73
                        first
                        | omega
                        | refine r_aload4 hR dX7_set_92 ?_
                          refine r_get hR (by first | decide | assumption | (simp only [gcnt_4, gcnt_1, gcnt_2, gcnt_3, gcnt_12, gcnt_13, gcnt_16]; omega)) fl_X7_140 rfl rfl dX7_set_94 ?_
                          try simp only [s0, s2, s3, s4]
                          rw [sth t htt 3 (by decide)]
                          refine r_istore5 hR (fun _ h => by first | (cases h; rfl) | exact absurd h (by simp)) dX7_set_97 ?_
                          refine r_aload4 hR dX7_set_99 ?_
                          refine r_iload3 hR dX7_set_101 ?_
                          refine r_puti hR (by first | decide | assumption | (simp only [gcnt_4, gcnt_1, gcnt_2, gcnt_3, gcnt_12, gcnt_13, gcnt_16]; omega)) fp_X7_140 rfl rfl (Nat.le_of_ble_eq_true rfl) rfl rfl dX7_set_102 ?_
                          refine r_iload5 hR dX7_set_105 ?_
                          refine r_iret hR dX7_set_107 ?_
                          first
                          | (unfold Qc
                             rw [e]
                             refine ⟨by obtain rfl : n = 1 := by omega
                                        rfl, ?_, keepM_seti M _ _ _ (by decide)⟩
                             obtain rfl : n = 1 := by omega
                             rw [sea_t hc.1 htt (by decide)]
                             exact clsP_sea hc (by rw [vu_o (by omega)]; exact w3) hK8)
                          | (unfold Qc
                             rw [e]
                             refine ⟨by obtain rfl : n = 2 := by omega
                                        rfl, ?_, keepM_seti M _ _ _ (by decide)⟩
                             obtain rfl : n = 2 := by omega
                             rw [sea_t hc.1 htt (by decide)]
                             exact clsP_sea hc (by rw [vu_o (by omega)]; exact w3) hK8)
                          | (unfold Qc
                             rw [e]
                             refine ⟨by obtain rfl : n = 3 := by omega
                                        rfl, ?_, keepM_seti M _ _ _ (by decide)⟩
                             obtain rfl : n = 3 := by omega
                             rw [sea_t hc.1 htt (by decide)]
                             exact clsP_sea hc (by rw [vu_o (by omega)]; exact w3) hK8)
                      · try simp (disch := omega) only [nI_ltI, nI_leI, nI_eq, bI_0, Decidable.not_not, lc_lt, lc_gt, lc_ge, lc_le, lc_eq, i64_toInt] at c73
                        try simp (disch := omega) only [cv_lt, cv_le, cv_eq, nI_toInt, cv_0] at c73
                        first
                        | omega
                        | refine r_aload4 hR dX7_set_76 ?_
                          refine r_get hR (by first | decide | assumption | (simp only [gcnt_4, gcnt_1, gcnt_2, gcnt_3, gcnt_12, gcnt_13, gcnt_16]; omega)) fl_X7_137 rfl rfl dX7_set_78 ?_
                          try simp only [s0, s2, s3, s4]
                          rw [sth t htt 2 (by decide)]
                          refine r_istore5 hR (fun _ h => by first | (cases h; rfl) | exact absurd h (by simp)) dX7_set_81 ?_
                          refine r_aload4 hR dX7_set_83 ?_
                          refine r_iload3 hR dX7_set_85 ?_
                          refine r_puti hR (by first | decide | assumption | (simp only [gcnt_4, gcnt_1, gcnt_2, gcnt_3, gcnt_12, gcnt_13, gcnt_16]; omega)) fp_X7_137 rfl rfl (Nat.le_of_ble_eq_true rfl) rfl rfl dX7_set_86 ?_
                          refine r_goto hR 105 dX7_set_89 (by decide) ?_
                          refine r_iload5 hR dX7_set_105 ?_
                          refine r_iret hR dX7_set_107 ?_
                          first
                          | (unfold Qc
                             rw [e]
                             refine ⟨by obtain rfl : n = 1 := by omega
                                        rfl, ?_, keepM_seti M _ _ _ (by decide)⟩
                             obtain rfl : n = 1 := by omega
                             rw [sea_t hc.1 htt (by decide)]
                             exact clsP_sea hc (by rw [vu_o (by omega)]; exact w3) hK8)
                          | (unfold Qc
                             rw [e]
                             refine ⟨by obtain rfl : n = 2 := by omega
                                        rfl, ?_, keepM_seti M _ _ _ (by decide)⟩
                             obtain rfl : n = 2 := by omega
                             rw [sea_t hc.1 htt (by decide)]
                             exact clsP_sea hc (by rw [vu_o (by omega)]; exact w3) hK8)
                          | (unfold Qc
                             rw [e]
                             refine ⟨by obtain rfl : n = 3 := by omega
                                        rfl, ?_, keepM_seti M _ _ _ (by decide)⟩
                             obtain rfl : n = 3 := by omega
                             rw [sea_t hc.1 htt (by decide)]
                             exact clsP_sea hc (by rw [vu_o (by omega)]; exact w3) hK8)
                  · try simp (disch := omega) only [nI_ltI, nI_leI, nI_eq, bI_0, Decidable.not_not, lc_lt, lc_gt, lc_ge, lc_le, lc_eq, i64_toInt] at c52
                    try simp (disch := omega) only [cv_lt, cv_le, cv_eq, nI_toInt, cv_0] at c52
                    first
                    | omega
                    | refine r_aload4 hR dX7_set_55 ?_
                      refine r_get hR (by first | decide | assumption | (simp only [gcnt_4, gcnt_1, gcnt_2, gcnt_3, gcnt_12, gcnt_13, gcnt_16]; omega)) fl_X7_134 rfl rfl dX7_set_57 ?_
                      try simp only [s0, s2, s3, s4]
                      rw [sth t htt 1 (by decide)]
                      refine r_istore5 hR (fun _ h => by first | (cases h; rfl) | exact absurd h (by simp)) dX7_set_60 ?_
                      refine r_aload4 hR dX7_set_62 ?_
                      refine r_iload3 hR dX7_set_64 ?_
                      refine r_puti hR (by first | decide | assumption | (simp only [gcnt_4, gcnt_1, gcnt_2, gcnt_3, gcnt_12, gcnt_13, gcnt_16]; omega)) fp_X7_134 rfl rfl (Nat.le_of_ble_eq_true rfl) rfl rfl dX7_set_65 ?_
                      refine r_goto hR 105 dX7_set_68 (by decide) ?_
                      refine r_iload5 hR dX7_set_105 ?_
                      refine r_iret hR dX7_set_107 ?_
                      first
                      | (unfold Qc
                         rw [e]
                         refine ⟨by obtain rfl : n = 1 := by omega
                                    rfl, ?_, keepM_seti M _ _ _ (by decide)⟩
                         obtain rfl : n = 1 := by omega
                         rw [sea_t hc.1 htt (by decide)]
                         exact clsP_sea hc (by rw [vu_o (by omega)]; exact w3) hK8)
                      | (unfold Qc
                         rw [e]
                         refine ⟨by obtain rfl : n = 2 := by omega
                                    rfl, ?_, keepM_seti M _ _ _ (by decide)⟩
                         obtain rfl : n = 2 := by omega
                         rw [sea_t hc.1 htt (by decide)]
                         exact clsP_sea hc (by rw [vu_o (by omega)]; exact w3) hK8)
                      | (unfold Qc
                         rw [e]
                         refine ⟨by obtain rfl : n = 3 := by omega
                                    rfl, ?_, keepM_seti M _ _ _ (by decide)⟩
                         obtain rfl : n = 3 := by omega
                         rw [sea_t hc.1 htt (by decide)]
                         exact clsP_sea hc (by rw [vu_o (by omega)]; exact w3) hK8)
              · try simp (disch := omega) only [nI_ltI, nI_leI, nI_eq, bI_0, Decidable.not_not, lc_lt, lc_gt, lc_ge, lc_le, lc_eq, i64_toInt] at c29
                try simp (disch := omega) only [cv_lt, cv_le, cv_eq, nI_toInt, cv_0] at c29
                first
                | omega
                | refine r_aload0 hR dX7_set_32 ?_
                  refine r_ldc hR ct_X7_81 dX7_set_33 ?_
                  refine r_cv1v hR kv_X7_82 (by decide) (t_X7_findingC (n := 0) (by decide) (by decide)) (by first | decide | assumption | (simp only [gcnt_4, gcnt_1, gcnt_2, gcnt_3, gcnt_12, gcnt_13, gcnt_16]; omega)) rfl rfl (Nat.le_of_ble_eq_true rfl) dX7_set_35 ?_
                  refine r_iret hR dX7_set_38 ?_
                  refine Qc_fnd hc (by decide) ?_
                  unfold oSet
                  refine if_neg ?_
                  rintro ⟨g1, g2, g3⟩
                  dsimp only [okI, okT] at g1 g2 g3
                  try simp (disch := omega) only [nI_toInt, uN_nI, mostN] at *
                  omega

set_option maxHeartbeats 4000000 in
set_option maxRecDepth 100000 in
theorem t_X7_turn {G : gG} {M : gM} {A : gA} {x y : Int32} (hc : clsP M A) (hw : wfA A) : Ct G mX7_turn 2 [.ref (ad G 0 0), .int x, .int y] M (Qc M (oTurn A x y)) := by
  obtain ⟨hwf, hday, hwk, hk2, hl, hT, hsh⟩ := id hw
  obtain ⟨w0, w1, w2, w3, wr, wt⟩ := id hwf
  obtain ⟨s0, s2, s3, s4, sr, sth⟩ := id hc.1
  have hK8 : ak A = 1 → aK A 3 ≤ 8 := fun z => (hwk z).1.2.2.2.1
  refine Ct.of (by decide +kernel) (k := 2) (ls0 := [some (.ref (ad G 0 0)), some (.int x), some (.int y), none, none]) rfl rfl (fun _ _ => trivial) ?_
  intro P hR
  refine r_aload0 hR dX7_turn_0 ?_
  refine r_get hR (by first | decide | assumption | (simp only [gcnt_4, gcnt_1, gcnt_2, gcnt_3, gcnt_12, gcnt_13, gcnt_16]; omega)) fl_X7_10 rfl rfl dX7_turn_1 ?_
  try simp only [s0, s2, s3, s4]
  refine r_iload1 hR dX7_turn_4 ?_
  refine r_cv1v hR kv_X7_121 (by decide) (t_X1_has (by decide) hc.1 w3) (by first | decide | assumption | (simp only [gcnt_4, gcnt_1, gcnt_2, gcnt_3, gcnt_12, gcnt_13, gcnt_16]; omega)) rfl rfl (Nat.le_of_ble_eq_true rfl) dX7_turn_5 ?_
  refine r_if_eq hR 19 dX7_turn_8 (by decide) (fun c8 => ?_) (fun c8 => ?_)
  · try simp (disch := omega) only [nI_ltI, nI_leI, nI_eq, bI_0, Decidable.not_not, lc_lt, lc_gt, lc_ge, lc_le, lc_eq, i64_toInt] at c8
    try simp (disch := omega) only [cv_lt, cv_le, cv_eq, nI_toInt, cv_0] at c8
    first
    | omega
    | refine r_aload0 hR dX7_turn_19 ?_
      refine r_ldc hR ct_X7_81 dX7_turn_20 ?_
      refine r_cv1v hR kv_X7_82 (by decide) (t_X7_findingC (n := 0) (by decide) (by decide)) (by first | decide | assumption | (simp only [gcnt_4, gcnt_1, gcnt_2, gcnt_3, gcnt_12, gcnt_13, gcnt_16]; omega)) rfl rfl (Nat.le_of_ble_eq_true rfl) dX7_turn_22 ?_
      refine r_iret hR dX7_turn_25 ?_
      refine Qc_fnd hc (by decide) ?_
      unfold oTurn
      dsimp only [okI, okT]
      (repeat' split) <;> first | rfl | omega
  · try simp (disch := omega) only [nI_ltI, nI_leI, nI_eq, bI_0, Decidable.not_not, lc_lt, lc_gt, lc_ge, lc_le, lc_eq, i64_toInt] at c8
    try simp (disch := omega) only [cv_lt, cv_le, cv_eq, nI_toInt, cv_0] at c8
    first
    | omega
    | refine r_iload2 hR dX7_turn_11 ?_
      refine r_iconst hR (nI 5) (by decide) dX7_turn_12 ?_
      refine r_cs2v hR ks_X7_77 (by decide) (t_X7_within) (Nat.le_of_ble_eq_true rfl) dX7_turn_13 ?_
      refine r_if_ne hR 26 dX7_turn_16 (by decide) (fun c16 => ?_) (fun c16 => ?_)
      · try simp (disch := omega) only [nI_ltI, nI_leI, nI_eq, bI_0, Decidable.not_not, lc_lt, lc_gt, lc_ge, lc_le, lc_eq, i64_toInt] at c16
        try simp (disch := omega) only [cv_lt, cv_le, cv_eq, nI_toInt, cv_0] at c16
        first
        | omega
        | obtain ⟨n, hn, rfl⟩ := of_in (x := y) (N := 5) (by omega)
          obtain ⟨t, ht0, rfl⟩ := of_in (x := x) (N := aS A 3 - 1) (by omega)
          have htt : t < aS A 3 := by rw [nI_toInt (by omega)] at c8; omega
          refine r_aload0 hR dX7_turn_26 ?_
          refine r_get hR (by first | decide | assumption | (simp only [gcnt_4, gcnt_1, gcnt_2, gcnt_3, gcnt_12, gcnt_13, gcnt_16]; omega)) fl_X7_10 rfl rfl dX7_turn_27 ?_
          try simp only [s0, s2, s3, s4]
          refine r_get hR (by first | decide | assumption | (simp only [gcnt_4, gcnt_1, gcnt_2, gcnt_3, gcnt_12, gcnt_13, gcnt_16]; omega)) fl_X7_124 rfl rfl dX7_turn_30 ?_
          try simp only [s0, s2, s3, s4]
          refine r_iload1 hR dX7_turn_33 ?_
          refine r_aald hR (t0 := 3) (by first | decide | assumption | (simp only [gcnt_4, gcnt_1, gcnt_2, gcnt_3, gcnt_12, gcnt_13, gcnt_16]; omega)) rfl rfl rfl (by omega) (by decide) rfl dX7_turn_34 ?_
          refine r_astore3 hR (fun _ h => by first | (cases h; rfl) | exact absurd h (by simp)) dX7_turn_35 ?_
          refine r_aload3 hR dX7_turn_36 ?_
          refine r_get hR (by first | decide | assumption | (simp only [gcnt_4, gcnt_1, gcnt_2, gcnt_3, gcnt_12, gcnt_13, gcnt_16]; omega)) fl_X7_131 rfl rfl dX7_turn_37 ?_
          try simp only [s0, s2, s3, s4]
          rw [sth t htt 0 (by decide)]
          refine r_istore4 hR (fun _ h => by first | (cases h; rfl) | exact absurd h (by simp)) dX7_turn_40 ?_
          refine r_aload3 hR dX7_turn_42 ?_
          refine r_iload2 hR dX7_turn_43 ?_
          refine r_puti hR (by first | decide | assumption | (simp only [gcnt_4, gcnt_1, gcnt_2, gcnt_3, gcnt_12, gcnt_13, gcnt_16]; omega)) fp_X7_131 rfl rfl (Nat.le_of_ble_eq_true rfl) rfl rfl dX7_turn_44 ?_
          refine r_iload4 hR dX7_turn_47 ?_
          refine r_iret hR dX7_turn_49 ?_
          have e : oTurn A (nI t) (nI n) = (nI (thg (aS A) t 0), sS A (va_up (aS A) (11 + 4 * t) n)) := by
            unfold oTurn
            rw [if_pos (by simp (disch := omega) only [okI, okT, nI_toInt]; omega)]
            simp (disch := omega) only [uN_nI]
          unfold Qc
          rw [e]
          refine ⟨rfl, ?_, keepM_seti M _ _ _ (by decide)⟩
          have e2 := sea_t hc.1 (v := n) htt (show 0 < 4 by decide)
          rw [Nat.add_zero] at e2
          rw [e2]
          exact clsP_sea hc (by rw [vu_o (by omega)]; exact w3) hK8
      · try simp (disch := omega) only [nI_ltI, nI_leI, nI_eq, bI_0, Decidable.not_not, lc_lt, lc_gt, lc_ge, lc_le, lc_eq, i64_toInt] at c16
        try simp (disch := omega) only [cv_lt, cv_le, cv_eq, nI_toInt, cv_0] at c16
        first
        | omega
        | refine r_aload0 hR dX7_turn_19 ?_
          refine r_ldc hR ct_X7_81 dX7_turn_20 ?_
          refine r_cv1v hR kv_X7_82 (by decide) (t_X7_findingC (n := 0) (by decide) (by decide)) (by first | decide | assumption | (simp only [gcnt_4, gcnt_1, gcnt_2, gcnt_3, gcnt_12, gcnt_13, gcnt_16]; omega)) rfl rfl (Nat.le_of_ble_eq_true rfl) dX7_turn_22 ?_
          refine r_iret hR dX7_turn_25 ?_
          refine Qc_fnd hc (by decide) ?_
          unfold oTurn
          dsimp only [okI, okT]
          (repeat' split) <;> first | rfl | omega

set_option maxHeartbeats 4000000 in
set_option maxRecDepth 100000 in
theorem t_X7_as {G : gG} {M : gM} {A : gA} {x y : Int32} (hc : clsP M A) (hw : wfA A) : Ct G mX7_as 2 [.ref (ad G 0 0), .int x, .int y] M (Qc M (oAs A x y)) := by
  obtain ⟨hwf, hday, hwk, hk2, hl, hT, hsh⟩ := id hw
  obtain ⟨w0, w1, w2, w3, wr, wt⟩ := id hwf
  obtain ⟨s0, s2, s3, s4, sr, sth⟩ := id hc.1
  have hK8 : ak A = 1 → aK A 3 ≤ 8 := fun z => (hwk z).1.2.2.2.1
  refine Ct.of (by decide +kernel) (k := 1) (ls0 := [some (.ref (ad G 0 0)), some (.int x), some (.int y), none]) rfl rfl (fun _ _ => trivial) ?_
  intro P hR
  refine r_aload0 hR dX7_as_0 ?_
  refine r_get hR (by first | decide | assumption | (simp only [gcnt_4, gcnt_1, gcnt_2, gcnt_3, gcnt_12, gcnt_13, gcnt_16]; omega)) fl_X7_10 rfl rfl dX7_as_1 ?_
  try simp only [s0, s2, s3, s4]
  refine r_iload1 hR dX7_as_4 ?_
  refine r_cv1v hR kv_X7_121 (by decide) (t_X1_has (by decide) hc.1 w3) (by first | decide | assumption | (simp only [gcnt_4, gcnt_1, gcnt_2, gcnt_3, gcnt_12, gcnt_13, gcnt_16]; omega)) rfl rfl (Nat.le_of_ble_eq_true rfl) dX7_as_5 ?_
  refine r_if_eq hR 19 dX7_as_8 (by decide) (fun c8 => ?_) (fun c8 => ?_)
  · try simp (disch := omega) only [nI_ltI, nI_leI, nI_eq, bI_0, Decidable.not_not, lc_lt, lc_gt, lc_ge, lc_le, lc_eq, i64_toInt] at c8
    try simp (disch := omega) only [cv_lt, cv_le, cv_eq, nI_toInt, cv_0] at c8
    first
    | omega
    | refine r_aload0 hR dX7_as_19 ?_
      refine r_ldc hR ct_X7_81 dX7_as_20 ?_
      refine r_cv1v hR kv_X7_82 (by decide) (t_X7_findingC (n := 0) (by decide) (by decide)) (by first | decide | assumption | (simp only [gcnt_4, gcnt_1, gcnt_2, gcnt_3, gcnt_12, gcnt_13, gcnt_16]; omega)) rfl rfl (Nat.le_of_ble_eq_true rfl) dX7_as_22 ?_
      refine r_iret hR dX7_as_25 ?_
      refine Qc_fnd hc (by decide) ?_
      unfold oAs
      dsimp only [okI, okT]
      (repeat' split) <;> first | rfl | omega
  · try simp (disch := omega) only [nI_ltI, nI_leI, nI_eq, bI_0, Decidable.not_not, lc_lt, lc_gt, lc_ge, lc_le, lc_eq, i64_toInt] at c8
    try simp (disch := omega) only [cv_lt, cv_le, cv_eq, nI_toInt, cv_0] at c8
    first
    | omega
    | refine r_iload2 hR dX7_as_11 ?_
      refine r_iconst hR (nI 5) (by decide) dX7_as_12 ?_
      refine r_cs2v hR ks_X7_77 (by decide) (t_X7_within) (Nat.le_of_ble_eq_true rfl) dX7_as_13 ?_
      refine r_if_ne hR 26 dX7_as_16 (by decide) (fun c16 => ?_) (fun c16 => ?_)
      · try simp (disch := omega) only [nI_ltI, nI_leI, nI_eq, bI_0, Decidable.not_not, lc_lt, lc_gt, lc_ge, lc_le, lc_eq, i64_toInt] at c16
        try simp (disch := omega) only [cv_lt, cv_le, cv_eq, nI_toInt, cv_0] at c16
        first
        | omega
        | obtain ⟨n, hn, rfl⟩ := of_in (x := y) (N := 5) (by omega)
          obtain ⟨t, ht0, rfl⟩ := of_in (x := x) (N := aS A 3 - 1) (by omega)
          have htt : t < aS A 3 := by rw [nI_toInt (by omega)] at c8; omega
          have k0 : M.1 4 (8 * 0 + t) 0 = nI (thg (aS A) t 0) := sth t htt 0 (by decide)
          have k1 : M.1 4 (8 * 0 + t) 1 = nI (thg (aS A) t 1) := sth t htt 1 (by decide)
          have k2 : M.1 4 (8 * 0 + t) 2 = nI (thg (aS A) t 2) := sth t htt 2 (by decide)
          have k3 : M.1 4 (8 * 0 + t) 3 = nI (thg (aS A) t 3) := sth t htt 3 (by decide)
          have q0 : thg (aS A) t 0 < 6 := by have := wt t htt; unfold thg; rw [Nat.add_zero]; omega
          have q1 : thg (aS A) t 1 < 36 := by have := wt t htt; unfold thg; omega
          have q2 : thg (aS A) t 2 < 8 := by have := wt t htt; unfold thg; omega
          have q3 : thg (aS A) t 3 ≤ 99999 := by have := wt t htt; unfold thg; omega
          have e : oAs A (nI t) (nI n) = if n = 0 ∨ n = thg (aS A) t 0 ∨ (n = 1 ∧ thg (aS A) t 0 = 4) ∨ (n = 2 ∧ thg (aS A) t 0 = 5) then (nI (thg (aS A) t 3), A) else fnd A 2 := by
            unfold oAs
            rw [if_pos (by simp (disch := omega) only [okI, okT, nI_toInt]; omega)]
            simp (disch := omega) only [uN_nI]
          refine r_aload0 hR dX7_as_26 ?_
          refine r_get hR (by first | decide | assumption | (simp only [gcnt_4, gcnt_1, gcnt_2, gcnt_3, gcnt_12, gcnt_13, gcnt_16]; omega)) fl_X7_10 rfl rfl dX7_as_27 ?_
          try simp only [s0, s2, s3, s4]
          refine r_get hR (by first | decide | assumption | (simp only [gcnt_4, gcnt_1, gcnt_2, gcnt_3, gcnt_12, gcnt_13, gcnt_16]; omega)) fl_X7_124 rfl rfl dX7_as_30 ?_
          try simp only [s0, s2, s3, s4]
          refine r_iload1 hR dX7_as_33 ?_
          refine r_aald hR (t0 := 3) (by first | decide | assumption | (simp only [gcnt_4, gcnt_1, gcnt_2, gcnt_3, gcnt_12, gcnt_13, gcnt_16]; omega)) rfl rfl rfl (by omega) (by decide) rfl dX7_as_34 ?_
          refine r_astore3 hR (fun _ h => by first | (cases h; rfl) | exact absurd h (by simp)) dX7_as_35 ?_
          refine r_aload3 hR dX7_as_36 ?_
          refine r_get hR (by first | decide | assumption | (simp only [gcnt_4, gcnt_1, gcnt_2, gcnt_3, gcnt_12, gcnt_13, gcnt_16]; omega)) fl_X7_131 rfl rfl dX7_as_37 ?_
          try simp only [s0, s2, s3, s4]
          rw [k0]
          refine r_iload2 hR dX7_as_40 ?_
          refine r_cs2v hR ks_X7_153 (by decide) (t_X7_isUnder q0 (by omega)) (Nat.le_of_ble_eq_true rfl) dX7_as_41 ?_
          refine r_if_eq hR 54 dX7_as_44 (by decide) (fun c44 => ?_) (fun c44 => ?_)
          · try simp (disch := omega) only [nI_ltI, nI_leI, nI_eq, bI_0, Decidable.not_not, lc_lt, lc_gt, lc_ge, lc_le, lc_eq, i64_toInt] at c44
            try simp (disch := omega) only [cv_lt, cv_le, cv_eq, nI_toInt, cv_0] at c44
            first
            | omega
            | refine r_aload0 hR dX7_as_54 ?_
              refine r_ldc hR ct_X7_156 dX7_as_55 ?_
              refine r_cv1v hR kv_X7_82 (by decide) (t_X7_findingC (n := 2) (by decide) (by decide)) (by first | decide | assumption | (simp only [gcnt_4, gcnt_1, gcnt_2, gcnt_3, gcnt_12, gcnt_13, gcnt_16]; omega)) rfl rfl (Nat.le_of_ble_eq_true rfl) dX7_as_57 ?_
              refine r_iret hR dX7_as_60 ?_
              rw [e]
              first
              | (rw [if_pos c44]; exact ⟨rfl, hc, keepM.rf M⟩)
              | (rw [if_neg c44]; exact Qc_fnd hc (by decide) rfl)
          · try simp (disch := omega) only [nI_ltI, nI_leI, nI_eq, bI_0, Decidable.not_not, lc_lt, lc_gt, lc_ge, lc_le, lc_eq, i64_toInt] at c44
            try simp (disch := omega) only [cv_lt, cv_le, cv_eq, nI_toInt, cv_0] at c44
            first
            | omega
            | refine r_aload3 hR dX7_as_47 ?_
              refine r_get hR (by first | decide | assumption | (simp only [gcnt_4, gcnt_1, gcnt_2, gcnt_3, gcnt_12, gcnt_13, gcnt_16]; omega)) fl_X7_140 rfl rfl dX7_as_48 ?_
              try simp only [s0, s2, s3, s4]
              rw [k3]
              refine r_goto hR 60 dX7_as_51 (by decide) ?_
              refine r_iret hR dX7_as_60 ?_
              rw [e]
              first
              | (rw [if_pos c44]; exact ⟨rfl, hc, keepM.rf M⟩)
              | (rw [if_neg c44]; exact Qc_fnd hc (by decide) rfl)
      · try simp (disch := omega) only [nI_ltI, nI_leI, nI_eq, bI_0, Decidable.not_not, lc_lt, lc_gt, lc_ge, lc_le, lc_eq, i64_toInt] at c16
        try simp (disch := omega) only [cv_lt, cv_le, cv_eq, nI_toInt, cv_0] at c16
        first
        | omega
        | refine r_aload0 hR dX7_as_19 ?_
          refine r_ldc hR ct_X7_81 dX7_as_20 ?_
          refine r_cv1v hR kv_X7_82 (by decide) (t_X7_findingC (n := 0) (by decide) (by decide)) (by first | decide | assumption | (simp only [gcnt_4, gcnt_1, gcnt_2, gcnt_3, gcnt_12, gcnt_13, gcnt_16]; omega)) rfl rfl (Nat.le_of_ble_eq_true rfl) dX7_as_22 ?_
          refine r_iret hR dX7_as_25 ?_
          refine Qc_fnd hc (by decide) ?_
          unfold oAs
          dsimp only [okI, okT]
          (repeat' split) <;> first | rfl | omega

set_option maxHeartbeats 4000000 in
set_option maxRecDepth 100000 in
theorem t_X7_days {G : gG} {M : gM} {A : gA} {x : Int32} (hc : clsP M A) (hw : wfA A) : Ct G mX7_days 6 [.ref (ad G 0 0), .int x] M (Qc M (oDays A x)) := by
  obtain ⟨hwf, hday, hwk, hk2, hl, hT, hsh⟩ := id hw
  obtain ⟨w0, w1, w2, w3, wr, wt⟩ := id hwf
  obtain ⟨s0, s2, s3, s4, sr, sth⟩ := id hc.1
  have hK8 : ak A = 1 → aK A 3 ≤ 8 := fun z => (hwk z).1.2.2.2.1
  refine Ct.of (by decide +kernel) (k := 0) (ls0 := [some (.ref (ad G 0 0)), some (.int x)]) rfl rfl (fun _ _ => trivial) ?_
  intro P hR
  refine r_iload1 hR dX7_days_0 ?_
  refine r_bipush hR (nI 60) (by decide) dX7_days_1 ?_
  refine r_cs2v hR ks_X7_157 (by decide) (t_X7_isSpan) (Nat.le_of_ble_eq_true rfl) dX7_days_3 ?_
  refine r_if_ne hR 16 dX7_days_6 (by decide) (fun c6 => ?_) (fun c6 => ?_)
  · try simp (disch := omega) only [nI_ltI, nI_leI, nI_eq, bI_0, Decidable.not_not, lc_lt, lc_gt, lc_ge, lc_le, lc_eq, i64_toInt] at c6
    try simp (disch := omega) only [cv_lt, cv_le, cv_eq, nI_toInt, cv_0] at c6
    first
    | omega
    | obtain ⟨n, hn, rfl⟩ := of_in (x := x) (N := 60) (by omega)
      simp (disch := omega) only [nI_toInt] at c6
      have e : oDays A (nI n) = if 9999 < aS A 0 + n then fnd A 4 else (nI (sumsN (dayN n (aS A))), sS A (dayN n (aS A))) := by
        unfold oDays
        rw [if_pos (by simp (disch := omega) only [okI, nI_toInt]; omega)]
        simp (disch := omega) only [uN_nI]
      refine r_aload0 hR dX7_days_16 ?_
      refine r_get hR (by first | decide | assumption | (simp only [gcnt_4, gcnt_1, gcnt_2, gcnt_3, gcnt_12, gcnt_13, gcnt_16]; omega)) fl_X7_10 rfl rfl dX7_days_17 ?_
      try simp only [s0, s2, s3, s4]
      refine r_get hR (by first | decide | assumption | (simp only [gcnt_4, gcnt_1, gcnt_2, gcnt_3, gcnt_12, gcnt_13, gcnt_16]; omega)) fl_X7_128 rfl rfl dX7_days_20 ?_
      try simp only [s0, s2, s3, s4]
      refine r_iload1 hR dX7_days_23 ?_
      refine r_iadd hR dX7_days_24 ?_
      try rw [nI_add]
      refine r_sipush hR (nI 9999) (by decide) dX7_days_25 ?_
      refine r_icmp_le hR 38 dX7_days_28 (by decide) (fun c28 => ?_) (fun c28 => ?_)
      · try simp (disch := omega) only [nI_ltI, nI_leI, nI_eq, bI_0, Decidable.not_not, lc_lt, lc_gt, lc_ge, lc_le, lc_eq, i64_toInt] at c28
        try simp (disch := omega) only [cv_lt, cv_le, cv_eq, nI_toInt, cv_0] at c28
        first
        | omega
        | refine r_aload0 hR dX7_days_38 ?_
          refine r_get hR (by first | decide | assumption | (simp only [gcnt_4, gcnt_1, gcnt_2, gcnt_3, gcnt_12, gcnt_13, gcnt_16]; omega)) fl_X7_10 rfl rfl dX7_days_39 ?_
          try simp only [s0, s2, s3, s4]
          refine r_iload1 hR dX7_days_42 ?_
          refine r_cv1v hR kv_X7_161 (by decide) (t_X1_gainIn (by decide) hc.1 hwf (by omega) (by omega)) (by first | decide | assumption | (simp only [gcnt_4, gcnt_1, gcnt_2, gcnt_3, gcnt_12, gcnt_13, gcnt_16]; omega)) rfl rfl (Nat.le_of_ble_eq_true rfl) dX7_days_43 ?_
          refine r_pop hR rfl dX7_days_46 ?_
          refine r_aload0 hR dX7_days_47 ?_
          refine r_get hR (by first | decide | assumption | (simp only [gcnt_4, gcnt_1, gcnt_2, gcnt_3, gcnt_12, gcnt_13, gcnt_16]; omega)) fl_X7_10 rfl rfl dX7_days_48 ?_
          try simp only [s0, s2, s3, s4]
          refine r_cv0v hR kv_X7_164 (by decide) (t_X1_sums (by decide) (putSea_P M 0 _) (wf_dayN hwf (by omega))) (by first | decide | assumption | (simp only [gcnt_4, gcnt_1, gcnt_2, gcnt_3, gcnt_12, gcnt_13, gcnt_16]; omega)) rfl rfl (Nat.le_of_ble_eq_true rfl) dX7_days_51 ?_
          refine r_iret hR dX7_days_54 ?_
          rw [e, if_neg (by omega)]
          exact ⟨rfl, clsP_sea hc (by rw [dayN_3]; exact w3) hK8, keepM_put M _ _ _⟩
      · try simp (disch := omega) only [nI_ltI, nI_leI, nI_eq, bI_0, Decidable.not_not, lc_lt, lc_gt, lc_ge, lc_le, lc_eq, i64_toInt] at c28
        try simp (disch := omega) only [cv_lt, cv_le, cv_eq, nI_toInt, cv_0] at c28
        first
        | omega
        | refine r_aload0 hR dX7_days_31 ?_
          refine r_ldc hR ct_X7_160 dX7_days_32 ?_
          refine r_cv1v hR kv_X7_82 (by decide) (t_X7_findingC (n := 4) (by decide) (by decide)) (by first | decide | assumption | (simp only [gcnt_4, gcnt_1, gcnt_2, gcnt_3, gcnt_12, gcnt_13, gcnt_16]; omega)) rfl rfl (Nat.le_of_ble_eq_true rfl) dX7_days_34 ?_
          refine r_iret hR dX7_days_37 ?_
          rw [e, if_pos (by omega)]
          exact Qc_fnd hc (by decide) rfl
  · try simp (disch := omega) only [nI_ltI, nI_leI, nI_eq, bI_0, Decidable.not_not, lc_lt, lc_gt, lc_ge, lc_le, lc_eq, i64_toInt] at c6
    try simp (disch := omega) only [cv_lt, cv_le, cv_eq, nI_toInt, cv_0] at c6
    first
    | omega
    | refine r_aload0 hR dX7_days_9 ?_
      refine r_ldc hR ct_X7_81 dX7_days_10 ?_
      refine r_cv1v hR kv_X7_82 (by decide) (t_X7_findingC (n := 0) (by decide) (by decide)) (by first | decide | assumption | (simp only [gcnt_4, gcnt_1, gcnt_2, gcnt_3, gcnt_12, gcnt_13, gcnt_16]; omega)) rfl rfl (Nat.le_of_ble_eq_true rfl) dX7_days_12 ?_
      refine r_iret hR dX7_days_15 ?_
      refine Qc_fnd hc (by decide) ?_
      unfold oDays
      dsimp only [okI, okT]
      (repeat' split) <;> first | rfl | omega

set_option maxHeartbeats 4000000 in
set_option maxRecDepth 100000 in
theorem t_X7_bribe {G : gG} {M : gM} {A : gA} {x : Int32} (hc : clsP M A) (hw : wfA A) : Ct G mX7_bribe 5 [.ref (ad G 0 0), .int x] M (Qc M (oBribe A x)) := by
  obtain ⟨hwf, hday, hwk, hk2, hl, hT, hsh⟩ := id hw
  obtain ⟨w0, w1, w2, w3, wr, wt⟩ := id hwf
  obtain ⟨s0, s2, s3, s4, sr, sth⟩ := id hc.1
  have hK8 : ak A = 1 → aK A 3 ≤ 8 := fun z => (hwk z).1.2.2.2.1
  refine Ct.of (by decide +kernel) (k := 0) (ls0 := [some (.ref (ad G 0 0)), some (.int x)]) rfl rfl (fun _ _ => trivial) ?_
  intro P hR
  refine r_iload1 hR dX7_bribe_0 ?_
  refine r_bipush hR (nI 7) (by decide) dX7_bribe_1 ?_
  refine r_cs2v hR ks_X7_77 (by decide) (t_X7_within) (Nat.le_of_ble_eq_true rfl) dX7_bribe_3 ?_
  refine r_if_ne hR 16 dX7_bribe_6 (by decide) (fun c6 => ?_) (fun c6 => ?_)
  · try simp (disch := omega) only [nI_ltI, nI_leI, nI_eq, bI_0, Decidable.not_not, lc_lt, lc_gt, lc_ge, lc_le, lc_eq, i64_toInt] at c6
    try simp (disch := omega) only [cv_lt, cv_le, cv_eq, nI_toInt, cv_0] at c6
    first
    | omega
    | obtain ⟨n, hn, rfl⟩ := of_in (x := x) (N := 7) (by omega)
      have e : oBribe A (nI n) = if aS A 0 = 9999 then fnd A 4 else (nI (sumsN (dayW (aS A) n)), sS A (dayW (aS A) n)) := by
        unfold oBribe
        rw [if_pos (by simp (disch := omega) only [okI, nI_toInt]; omega)]
        simp (disch := omega) only [uN_nI]
      refine r_aload0 hR dX7_bribe_16 ?_
      refine r_get hR (by first | decide | assumption | (simp only [gcnt_4, gcnt_1, gcnt_2, gcnt_3, gcnt_12, gcnt_13, gcnt_16]; omega)) fl_X7_10 rfl rfl dX7_bribe_17 ?_
      try simp only [s0, s2, s3, s4]
      refine r_get hR (by first | decide | assumption | (simp only [gcnt_4, gcnt_1, gcnt_2, gcnt_3, gcnt_12, gcnt_13, gcnt_16]; omega)) fl_X7_128 rfl rfl dX7_bribe_20 ?_
      try simp only [s0, s2, s3, s4]
      refine r_sipush hR (nI 9999) (by decide) dX7_bribe_23 ?_
      refine r_icmp_lt hR 36 dX7_bribe_26 (by decide) (fun c26 => ?_) (fun c26 => ?_)
      · try simp (disch := omega) only [nI_ltI, nI_leI, nI_eq, bI_0, Decidable.not_not, lc_lt, lc_gt, lc_ge, lc_le, lc_eq, i64_toInt] at c26
        try simp (disch := omega) only [cv_lt, cv_le, cv_eq, nI_toInt, cv_0] at c26
        first
        | omega
        | refine r_aload0 hR dX7_bribe_36 ?_
          refine r_get hR (by first | decide | assumption | (simp only [gcnt_4, gcnt_1, gcnt_2, gcnt_3, gcnt_12, gcnt_13, gcnt_16]; omega)) fl_X7_10 rfl rfl dX7_bribe_37 ?_
          try simp only [s0, s2, s3, s4]
          refine r_iload1 hR dX7_bribe_40 ?_
          refine r_cv1u hR kv_X7_168 (by decide) (t_X1_goDay (by decide) hc.1 hwf (by omega)) (by first | decide | assumption | (simp only [gcnt_4, gcnt_1, gcnt_2, gcnt_3, gcnt_12, gcnt_13, gcnt_16]; omega)) rfl rfl (Nat.le_of_ble_eq_true rfl) dX7_bribe_41 ?_
          refine r_aload0 hR dX7_bribe_44 ?_
          refine r_get hR (by first | decide | assumption | (simp only [gcnt_4, gcnt_1, gcnt_2, gcnt_3, gcnt_12, gcnt_13, gcnt_16]; omega)) fl_X7_10 rfl rfl dX7_bribe_45 ?_
          try simp only [s0, s2, s3, s4]
          refine r_cv0v hR kv_X7_164 (by decide) (t_X1_sums (by decide) (putSea_P M 0 _) (wf_dayW hwf (by omega))) (by first | decide | assumption | (simp only [gcnt_4, gcnt_1, gcnt_2, gcnt_3, gcnt_12, gcnt_13, gcnt_16]; omega)) rfl rfl (Nat.le_of_ble_eq_true rfl) dX7_bribe_48 ?_
          refine r_iret hR dX7_bribe_51 ?_
          rw [e, if_neg (by omega)]
          exact ⟨rfl, clsP_sea hc (by rw [dayW_3]; exact w3) hK8, keepM_put M _ _ _⟩
      · try simp (disch := omega) only [nI_ltI, nI_leI, nI_eq, bI_0, Decidable.not_not, lc_lt, lc_gt, lc_ge, lc_le, lc_eq, i64_toInt] at c26
        try simp (disch := omega) only [cv_lt, cv_le, cv_eq, nI_toInt, cv_0] at c26
        first
        | omega
        | refine r_aload0 hR dX7_bribe_29 ?_
          refine r_ldc hR ct_X7_160 dX7_bribe_30 ?_
          refine r_cv1v hR kv_X7_82 (by decide) (t_X7_findingC (n := 4) (by decide) (by decide)) (by first | decide | assumption | (simp only [gcnt_4, gcnt_1, gcnt_2, gcnt_3, gcnt_12, gcnt_13, gcnt_16]; omega)) rfl rfl (Nat.le_of_ble_eq_true rfl) dX7_bribe_32 ?_
          refine r_iret hR dX7_bribe_35 ?_
          rw [e, if_pos (by omega)]
          exact Qc_fnd hc (by decide) rfl
  · try simp (disch := omega) only [nI_ltI, nI_leI, nI_eq, bI_0, Decidable.not_not, lc_lt, lc_gt, lc_ge, lc_le, lc_eq, i64_toInt] at c6
    try simp (disch := omega) only [cv_lt, cv_le, cv_eq, nI_toInt, cv_0] at c6
    first
    | omega
    | refine r_aload0 hR dX7_bribe_9 ?_
      refine r_ldc hR ct_X7_81 dX7_bribe_10 ?_
      refine r_cv1v hR kv_X7_82 (by decide) (t_X7_findingC (n := 0) (by decide) (by decide)) (by first | decide | assumption | (simp only [gcnt_4, gcnt_1, gcnt_2, gcnt_3, gcnt_12, gcnt_13, gcnt_16]; omega)) rfl rfl (Nat.le_of_ble_eq_true rfl) dX7_bribe_12 ?_
      refine r_iret hR dX7_bribe_15 ?_
      refine Qc_fnd hc (by decide) ?_
      unfold oBribe
      dsimp only [okI, okT]
      (repeat' split) <;> first | rfl | omega

set_option maxHeartbeats 4000000 in
set_option maxRecDepth 100000 in
theorem t_X7_now {G : gG} {M : gM} {A : gA} {x : Int32} (hc : clsP M A) (hw : wfA A) : Ct G mX7_now 4 [.ref (ad G 0 0), .int x] M (Qc M (oNow A x)) := by
  obtain ⟨hwf, hday, hwk, hk2, hl, hT, hsh⟩ := id hw
  obtain ⟨w0, w1, w2, w3, wr, wt⟩ := id hwf
  obtain ⟨s0, s2, s3, s4, sr, sth⟩ := id hc.1
  have hK8 : ak A = 1 → aK A 3 ≤ 8 := fun z => (hwk z).1.2.2.2.1
  refine Ct.of (by decide +kernel) (k := 0) (ls0 := [some (.ref (ad G 0 0)), some (.int x)]) rfl rfl (fun _ _ => trivial) ?_
  intro P hR
  by_cases hv : 0 ≤ x.toInt ∧ x.toInt ≤ 6
  · skip
    obtain ⟨n, hn, rfl⟩ := of_in (x := x) (N := 6) (by omega)
    have e : oNow A (nI n) = (nI (if n = 0 then aS A 0 else if n = 1 then blow (aS A) (aS A 0) else if n = 2 then aS A 1 else if n = 3 then aS A 2 else if n = 4 then sumsN (aS A) else if n = 5 then earP (aS A) (blow (aS A) (aS A 0)) (aS A 3) else goP (aS A) (blow (aS A) (aS A 0)) (aS A 3)), A) := by
      unfold oNow
      rw [if_pos (by simp (disch := omega) only [okI, nI_toInt]; omega)]
      simp (disch := omega) only [uN_nI]
    refine r_iload1 hR dX7_now_0 ?_
    by_cases e0 : n = 0
    · refine r_swInN hR 0 e0 (by decide) 44 dX7_now_1 (by decide) (by decide) rfl (by decide) ?_
      refine r_aload0 hR dX7_now_44 ?_
      refine r_get hR (by first | decide | assumption | (simp only [gcnt_4, gcnt_1, gcnt_2, gcnt_3, gcnt_12, gcnt_13, gcnt_16]; omega)) fl_X7_10 rfl rfl dX7_now_45 ?_
      try simp only [s0, s2, s3, s4]
      refine r_get hR (by first | decide | assumption | (simp only [gcnt_4, gcnt_1, gcnt_2, gcnt_3, gcnt_12, gcnt_13, gcnt_16]; omega)) fl_X7_128 rfl rfl dX7_now_48 ?_
      try simp only [s0, s2, s3, s4]
      refine r_iret hR dX7_now_51 ?_
      unfold Qc
      rw [e]
      refine ⟨congrArg (fun z => some (Value.int (nI z))) ?_, hc, keepM.rf M⟩
      (repeat' split) <;> first | rfl | omega
    · skip
      by_cases e1 : n = 1
      · refine r_swInN hR 1 e1 (by decide) 52 dX7_now_1 (by decide) (by decide) rfl (by decide) ?_
        refine r_aload0 hR dX7_now_52 ?_
        refine r_get hR (by first | decide | assumption | (simp only [gcnt_4, gcnt_1, gcnt_2, gcnt_3, gcnt_12, gcnt_13, gcnt_16]; omega)) fl_X7_10 rfl rfl dX7_now_53 ?_
        try simp only [s0, s2, s3, s4]
        refine r_aload0 hR dX7_now_56 ?_
        refine r_get hR (by first | decide | assumption | (simp only [gcnt_4, gcnt_1, gcnt_2, gcnt_3, gcnt_12, gcnt_13, gcnt_16]; omega)) fl_X7_10 rfl rfl dX7_now_57 ?_
        try simp only [s0, s2, s3, s4]
        refine r_get hR (by first | decide | assumption | (simp only [gcnt_4, gcnt_1, gcnt_2, gcnt_3, gcnt_12, gcnt_13, gcnt_16]; omega)) fl_X7_128 rfl rfl dX7_now_60 ?_
        try simp only [s0, s2, s3, s4]
        refine r_cv1v hR kv_X7_101 (by decide) (t_X1_windOn (by decide) hc.1 hwf (by omega)) (by first | decide | assumption | (simp only [gcnt_4, gcnt_1, gcnt_2, gcnt_3, gcnt_12, gcnt_13, gcnt_16]; omega)) rfl rfl (Nat.le_of_ble_eq_true rfl) dX7_now_63 ?_
        refine r_iret hR dX7_now_66 ?_
        unfold Qc
        rw [e]
        refine ⟨congrArg (fun z => some (Value.int (nI z))) ?_, hc, keepM.rf M⟩
        (repeat' split) <;> first | rfl | omega
      · skip
        by_cases e2 : n = 2
        · refine r_swInN hR 2 e2 (by decide) 67 dX7_now_1 (by decide) (by decide) rfl (by decide) ?_
          refine r_aload0 hR dX7_now_67 ?_
          refine r_get hR (by first | decide | assumption | (simp only [gcnt_4, gcnt_1, gcnt_2, gcnt_3, gcnt_12, gcnt_13, gcnt_16]; omega)) fl_X7_10 rfl rfl dX7_now_68 ?_
          try simp only [s0, s2, s3, s4]
          refine r_get hR (by first | decide | assumption | (simp only [gcnt_4, gcnt_1, gcnt_2, gcnt_3, gcnt_12, gcnt_13, gcnt_16]; omega)) fl_X7_97 rfl rfl dX7_now_71 ?_
          try simp only [s0, s2, s3, s4]
          refine r_iret hR dX7_now_74 ?_
          unfold Qc
          rw [e]
          refine ⟨congrArg (fun z => some (Value.int (nI z))) ?_, hc, keepM.rf M⟩
          (repeat' split) <;> first | rfl | omega
        · skip
          by_cases e3 : n = 3
          · refine r_swInN hR 3 e3 (by decide) 75 dX7_now_1 (by decide) (by decide) rfl (by decide) ?_
            refine r_aload0 hR dX7_now_75 ?_
            refine r_get hR (by first | decide | assumption | (simp only [gcnt_4, gcnt_1, gcnt_2, gcnt_3, gcnt_12, gcnt_13, gcnt_16]; omega)) fl_X7_10 rfl rfl dX7_now_76 ?_
            try simp only [s0, s2, s3, s4]
            refine r_get hR (by first | decide | assumption | (simp only [gcnt_4, gcnt_1, gcnt_2, gcnt_3, gcnt_12, gcnt_13, gcnt_16]; omega)) fl_X7_172 rfl rfl dX7_now_79 ?_
            try simp only [s0, s2, s3, s4]
            refine r_iret hR dX7_now_82 ?_
            unfold Qc
            rw [e]
            refine ⟨congrArg (fun z => some (Value.int (nI z))) ?_, hc, keepM.rf M⟩
            (repeat' split) <;> first | rfl | omega
          · skip
            by_cases e4 : n = 4
            · refine r_swInN hR 4 e4 (by decide) 83 dX7_now_1 (by decide) (by decide) rfl (by decide) ?_
              refine r_aload0 hR dX7_now_83 ?_
              refine r_get hR (by first | decide | assumption | (simp only [gcnt_4, gcnt_1, gcnt_2, gcnt_3, gcnt_12, gcnt_13, gcnt_16]; omega)) fl_X7_10 rfl rfl dX7_now_84 ?_
              try simp only [s0, s2, s3, s4]
              refine r_cv0v hR kv_X7_164 (by decide) (t_X1_sums (by decide) hc.1 hwf) (by first | decide | assumption | (simp only [gcnt_4, gcnt_1, gcnt_2, gcnt_3, gcnt_12, gcnt_13, gcnt_16]; omega)) rfl rfl (Nat.le_of_ble_eq_true rfl) dX7_now_87 ?_
              refine r_iret hR dX7_now_90 ?_
              unfold Qc
              rw [e]
              refine ⟨congrArg (fun z => some (Value.int (nI z))) ?_, hc, keepM.rf M⟩
              (repeat' split) <;> first | rfl | omega
            · skip
              by_cases e5 : n = 5
              · refine r_swInN hR 5 e5 (by decide) 91 dX7_now_1 (by decide) (by decide) rfl (by decide) ?_
                refine r_aload0 hR dX7_now_91 ?_
                refine r_get hR (by first | decide | assumption | (simp only [gcnt_4, gcnt_1, gcnt_2, gcnt_3, gcnt_12, gcnt_13, gcnt_16]; omega)) fl_X7_10 rfl rfl dX7_now_92 ?_
                try simp only [s0, s2, s3, s4]
                refine r_cv0v hR kv_X7_175 (by decide) (t_X1_earningsToday (by decide) hc.1 hwf) (by first | decide | assumption | (simp only [gcnt_4, gcnt_1, gcnt_2, gcnt_3, gcnt_12, gcnt_13, gcnt_16]; omega)) rfl rfl (Nat.le_of_ble_eq_true rfl) dX7_now_95 ?_
                refine r_iret hR dX7_now_98 ?_
                unfold Qc
                rw [e]
                refine ⟨congrArg (fun z => some (Value.int (nI z))) ?_, hc, keepM.rf M⟩
                (repeat' split) <;> first | rfl | omega
              · skip
                by_cases e6 : n = 6
                · refine r_swInN hR 6 e6 (by decide) 99 dX7_now_1 (by decide) (by decide) rfl (by decide) ?_
                  refine r_aload0 hR dX7_now_99 ?_
                  refine r_get hR (by first | decide | assumption | (simp only [gcnt_4, gcnt_1, gcnt_2, gcnt_3, gcnt_12, gcnt_13, gcnt_16]; omega)) fl_X7_10 rfl rfl dX7_now_100 ?_
                  try simp only [s0, s2, s3, s4]
                  refine r_cv0v hR kv_X7_178 (by decide) (t_X1_goingToday (by decide) hc.1 hwf) (by first | decide | assumption | (simp only [gcnt_4, gcnt_1, gcnt_2, gcnt_3, gcnt_12, gcnt_13, gcnt_16]; omega)) rfl rfl (Nat.le_of_ble_eq_true rfl) dX7_now_103 ?_
                  refine r_iret hR dX7_now_106 ?_
                  unfold Qc
                  rw [e]
                  refine ⟨congrArg (fun z => some (Value.int (nI z))) ?_, hc, keepM.rf M⟩
                  (repeat' split) <;> first | rfl | omega
                · skip
                  refine r_swOutN hR (k := n) (by omega) 107 dX7_now_1 (by omega) (by decide) ?_
                  refine r_aload0 hR dX7_now_107 ?_
                  refine r_ldc hR ct_X7_81 dX7_now_108 ?_
                  refine r_cv1v hR kv_X7_82 (by decide) (t_X7_findingC (n := 0) (by decide) (by decide)) (by first | decide | assumption | (simp only [gcnt_4, gcnt_1, gcnt_2, gcnt_3, gcnt_12, gcnt_13, gcnt_16]; omega)) rfl rfl (Nat.le_of_ble_eq_true rfl) dX7_now_110 ?_
                  refine r_iret hR dX7_now_113 ?_
                  omega
  · skip
    refine r_iload1 hR dX7_now_0 ?_
    refine r_swOut hR 107 dX7_now_1 (by omega) (by decide) ?_
    refine r_aload0 hR dX7_now_107 ?_
    refine r_ldc hR ct_X7_81 dX7_now_108 ?_
    refine r_cv1v hR kv_X7_82 (by decide) (t_X7_findingC (n := 0) (by decide) (by decide)) (by first | decide | assumption | (simp only [gcnt_4, gcnt_1, gcnt_2, gcnt_3, gcnt_12, gcnt_13, gcnt_16]; omega)) rfl rfl (Nat.le_of_ble_eq_true rfl) dX7_now_110 ?_
    refine r_iret hR dX7_now_113 ?_
    refine Qc_fnd hc (by decide) ?_
    unfold oNow
    dsimp only [okI, okT]
    (repeat' split) <;> first | rfl | omega

