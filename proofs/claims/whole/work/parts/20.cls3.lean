set_option maxHeartbeats 4000000 in
set_option maxRecDepth 100000 in
theorem t_X7_enough {G : gG} {M : gM} {A : gA} {x y : Int32} (hc : clsP M A) (hw : wfA A) : Ct G mX7_enough 6 [.ref (ad G 0 0), .int x, .int y] M (Qc M (oEnough A x y)) := by
  obtain ⟨hwf, hday, hwk, hk2, hl, hT, hsh⟩ := id hw
  obtain ⟨w0, w1, w2, w3, wr, wt⟩ := id hwf
  obtain ⟨s0, s2, s3, s4, sr, sth⟩ := id hc.1
  have hK8 : ak A = 1 → aK A 3 ≤ 8 := fun z => (hwk z).1.2.2.2.1
  refine Ct.of (by decide +kernel) (k := 1) (ls0 := [some (.ref (ad G 0 0)), some (.int x), some (.int y), none]) rfl rfl (fun _ _ => trivial) ?_
  intro P hR
  refine r_iload1 hR dX7_enough_0 ?_
  refine r_bipush hR (nI 30) (by decide) dX7_enough_1 ?_
  refine r_cs2v hR ks_X7_157 (by decide) (t_X7_isSpan) (Nat.le_of_ble_eq_true rfl) dX7_enough_3 ?_
  refine r_if_eq hR 18 dX7_enough_6 (by decide) (fun c6 => ?_) (fun c6 => ?_)
  · try simp (disch := omega) only [nI_ltI, nI_leI, nI_eq, bI_0, Decidable.not_not, lc_lt, lc_gt, lc_ge, lc_le, lc_eq, i64_toInt] at c6
    try simp (disch := omega) only [cv_lt, cv_le, cv_eq, nI_toInt, cv_0] at c6
    first
    | omega
    | refine r_aload0 hR dX7_enough_18 ?_
      refine r_ldc hR ct_X7_81 dX7_enough_19 ?_
      refine r_cv1v hR kv_X7_82 (by decide) (t_X7_findingC (n := 0) (by decide) (by decide)) (by first | decide | assumption | (simp only [gcnt_4, gcnt_1, gcnt_2, gcnt_3, gcnt_12, gcnt_13, gcnt_16]; omega)) rfl rfl (Nat.le_of_ble_eq_true rfl) dX7_enough_21 ?_
      refine r_iret hR dX7_enough_24 ?_
      refine Qc_fnd hc (by decide) ?_
      unfold oEnough
      dsimp only [okI, okT]
      (repeat' split) <;> first | rfl | omega
  · try simp (disch := omega) only [nI_ltI, nI_leI, nI_eq, bI_0, Decidable.not_not, lc_lt, lc_gt, lc_ge, lc_le, lc_eq, i64_toInt] at c6
    try simp (disch := omega) only [cv_lt, cv_le, cv_eq, nI_toInt, cv_0] at c6
    first
    | omega
    | refine r_iload2 hR dX7_enough_9 ?_
      refine r_ldcN hR ct_X7_221 99999 (by decide) dX7_enough_10 ?_
      refine r_cs2v hR ks_X7_77 (by decide) (t_X7_within) (Nat.le_of_ble_eq_true rfl) dX7_enough_12 ?_
      refine r_if_ne hR 25 dX7_enough_15 (by decide) (fun c15 => ?_) (fun c15 => ?_)
      · try simp (disch := omega) only [nI_ltI, nI_leI, nI_eq, bI_0, Decidable.not_not, lc_lt, lc_gt, lc_ge, lc_le, lc_eq, i64_toInt] at c15
        try simp (disch := omega) only [cv_lt, cv_le, cv_eq, nI_toInt, cv_0] at c15
        first
        | omega
        | obtain ⟨n, hn, rfl⟩ := of_in (x := x) (N := 30) (by omega)
          obtain ⟨v, hv, rfl⟩ := of_in (x := y) (N := 99999) (by omega)
          simp (disch := omega) only [nI_toInt] at c6
          have e : oEnough A (nI n) (nI v) = if firstN (fun f => decide (v ≤ gainN n (va_up (aS A) 1 f))) 10 0 = 10 then fnd A 3 else (nI (firstN (fun f => decide (v ≤ gainN n (va_up (aS A) 1 f))) 10 0), A) := by
            unfold oEnough
            rw [if_pos (by simp (disch := omega) only [okI, okT, nI_toInt]; omega)]
            simp (disch := omega) only [uN_nI]
          have L : ∀ (j i : Nat) (N : gM), i + j = 10 → eqX M N → firstN (fun f => decide (v ≤ gainN n (va_up (aS A) 1 f))) j i = firstN (fun f => decide (v ≤ gainN n (va_up (aS A) 1 f))) 10 0 → P 27 [some (.ref (ad G 0 0)), some (.int (nI n)), some (.int (nI v)), some (.int (nI i))] [] N := by
            intro j
            induction j with
            | zero =>
              intro i N hij hX hf
              have hsN := seaP_eqX hX w3 hc.1
              obtain ⟨x0, x2, x3, x4, xr, xth⟩ := id hsN
              have z0 : va_up (aS A) 1 i 0 = aS A 0 := rfl
              have z3 : va_up (aS A) 1 i 3 = aS A 3 := rfl
              have hwS : i ≤ 9 → wfS (va_up (aS A) 1 i) := fun z => wf_force hwf z
              refine r_iload3 hR dX7_enough_27 ?_
              refine r_bipush hR (nI 9) (by decide) dX7_enough_28 ?_
              refine r_icmp_gt hR 72 dX7_enough_30 (by decide) (fun c30 => ?_) (fun c30 => ?_)
              · try simp (disch := omega) only [nI_ltI, nI_leI, nI_eq, bI_0, Decidable.not_not, lc_lt, lc_gt, lc_ge, lc_le, lc_eq, i64_toInt] at c30
                try simp (disch := omega) only [cv_lt, cv_le, cv_eq, nI_toInt, cv_0] at c30
                first
                | omega
                | refine r_aload0 hR dX7_enough_72 ?_
                  refine r_ldc hR ct_X7_108 dX7_enough_73 ?_
                  refine r_cv1v hR kv_X7_82 (by decide) (t_X7_findingC (n := 3) (by decide) (by decide)) (by first | decide | assumption | (simp only [gcnt_4, gcnt_1, gcnt_2, gcnt_3, gcnt_12, gcnt_13, gcnt_16]; omega)) rfl rfl (Nat.le_of_ble_eq_true rfl) dX7_enough_75 ?_
                  refine r_iret hR dX7_enough_78 ?_
                  obtain rfl : i = 10 := by omega
                  refine Qc_fndX (A := A) hX w3 hK8 hc (by decide) ?_
                  rw [e, ← hf]
                  exact if_pos rfl
              · try simp (disch := omega) only [nI_ltI, nI_leI, nI_eq, bI_0, Decidable.not_not, lc_lt, lc_gt, lc_ge, lc_le, lc_eq, i64_toInt] at c30
                try simp (disch := omega) only [cv_lt, cv_le, cv_eq, nI_toInt, cv_0] at c30
                first
                | omega
                | refine r_aload0 hR dX7_enough_33 ?_
                  refine r_get hR (by first | decide | assumption | (simp only [gcnt_4, gcnt_1, gcnt_2, gcnt_3, gcnt_12, gcnt_13, gcnt_16]; omega)) fl_X7_16 rfl rfl dX7_enough_34 ?_
                  refine r_aload0 hR dX7_enough_37 ?_
                  refine r_get hR (by first | decide | assumption | (simp only [gcnt_4, gcnt_1, gcnt_2, gcnt_3, gcnt_12, gcnt_13, gcnt_16]; omega)) fl_X7_10 rfl rfl dX7_enough_38 ?_
                  refine r_cv1u hR kv_X7_207 (by decide) (t_X1_become (by decide) (by decide) (by decide) hsN w3) (by first | decide | assumption | (simp only [gcnt_4, gcnt_1, gcnt_2, gcnt_3, gcnt_12, gcnt_13, gcnt_16]; omega)) rfl rfl (Nat.le_of_ble_eq_true rfl) dX7_enough_41 ?_
                  refine r_aload0 hR dX7_enough_44 ?_
                  refine r_get hR (by first | decide | assumption | (simp only [gcnt_4, gcnt_1, gcnt_2, gcnt_3, gcnt_12, gcnt_13, gcnt_16]; omega)) fl_X7_16 rfl rfl dX7_enough_45 ?_
                  refine r_iload3 hR dX7_enough_48 ?_
                  refine r_puti hR (by first | decide | assumption | (simp only [gcnt_4, gcnt_1, gcnt_2, gcnt_3, gcnt_12, gcnt_13, gcnt_16]; omega)) fp_X7_97 rfl rfl (Nat.le_of_ble_eq_true rfl) rfl rfl dX7_enough_49 ?_
                  refine r_mem (M2 := putSea N 1 (va_up (aS A) 1 i)) (putSn_seti_f N 1 (aS A) (aS A 3) i) ?_
                  refine r_aload0 hR dX7_enough_52 ?_
                  refine r_get hR (by first | decide | assumption | (simp only [gcnt_4, gcnt_1, gcnt_2, gcnt_3, gcnt_12, gcnt_13, gcnt_16]; omega)) fl_X7_16 rfl rfl dX7_enough_53 ?_
                  refine r_iload1 hR dX7_enough_56 ?_
                  refine r_cv1v hR kv_X7_161 (by decide) (t_X1_gainIn (by decide) (putSea_P N 1 (va_up (aS A) 1 i)) (hwS (by omega)) (by omega) (by show (va_up (aS A) 1 i) 0 + n < 20000; omega)) (by first | decide | assumption | (simp only [gcnt_4, gcnt_1, gcnt_2, gcnt_3, gcnt_12, gcnt_13, gcnt_16]; omega)) rfl rfl (Nat.le_of_ble_eq_true rfl) dX7_enough_57 ?_
                  have hg := sumsN_le (wf_dayN (n := n) (hwS (by omega)) (by omega))
                  refine r_iload2 hR dX7_enough_60 ?_
                  refine r_icmp_lt hR 66 dX7_enough_61 (by decide) (fun c61 => ?_) (fun c61 => ?_)
                  · try simp (disch := omega) only [nI_ltI, nI_leI, nI_eq, bI_0, Decidable.not_not, lc_lt, lc_gt, lc_ge, lc_le, lc_eq, i64_toInt] at c61
                    try simp (disch := omega) only [cv_lt, cv_le, cv_eq, nI_toInt, cv_0] at c61
                    first
                    | omega
                    | refine r_iinc3 hR (nI 1) (by decide) (fun _ h => by first | (cases h; rfl) | exact absurd h (by simp)) dX7_enough_66 ?_
                      try rw [nI_add]
                      refine r_goto hR 27 dX7_enough_69 (by decide) ?_
                      omega
                  · try simp (disch := omega) only [nI_ltI, nI_leI, nI_eq, bI_0, Decidable.not_not, lc_lt, lc_gt, lc_ge, lc_le, lc_eq, i64_toInt] at c61
                    try simp (disch := omega) only [cv_lt, cv_le, cv_eq, nI_toInt, cv_0] at c61
                    first
                    | omega
                    | refine r_iload3 hR dX7_enough_64 ?_
                      refine r_iret hR dX7_enough_65 ?_
                      omega
            | succ j ih =>
              intro i N hij hX hf
              have hsN := seaP_eqX hX w3 hc.1
              obtain ⟨x0, x2, x3, x4, xr, xth⟩ := id hsN
              have z0 : va_up (aS A) 1 i 0 = aS A 0 := rfl
              have z3 : va_up (aS A) 1 i 3 = aS A 3 := rfl
              have hwS : i ≤ 9 → wfS (va_up (aS A) 1 i) := fun z => wf_force hwf z
              refine r_iload3 hR dX7_enough_27 ?_
              refine r_bipush hR (nI 9) (by decide) dX7_enough_28 ?_
              refine r_icmp_gt hR 72 dX7_enough_30 (by decide) (fun c30 => ?_) (fun c30 => ?_)
              · try simp (disch := omega) only [nI_ltI, nI_leI, nI_eq, bI_0, Decidable.not_not, lc_lt, lc_gt, lc_ge, lc_le, lc_eq, i64_toInt] at c30
                try simp (disch := omega) only [cv_lt, cv_le, cv_eq, nI_toInt, cv_0] at c30
                first
                | omega
                | refine r_aload0 hR dX7_enough_72 ?_
                  refine r_ldc hR ct_X7_108 dX7_enough_73 ?_
                  refine r_cv1v hR kv_X7_82 (by decide) (t_X7_findingC (n := 3) (by decide) (by decide)) (by first | decide | assumption | (simp only [gcnt_4, gcnt_1, gcnt_2, gcnt_3, gcnt_12, gcnt_13, gcnt_16]; omega)) rfl rfl (Nat.le_of_ble_eq_true rfl) dX7_enough_75 ?_
                  refine r_iret hR dX7_enough_78 ?_
                  omega
              · try simp (disch := omega) only [nI_ltI, nI_leI, nI_eq, bI_0, Decidable.not_not, lc_lt, lc_gt, lc_ge, lc_le, lc_eq, i64_toInt] at c30
                try simp (disch := omega) only [cv_lt, cv_le, cv_eq, nI_toInt, cv_0] at c30
                first
                | omega
                | refine r_aload0 hR dX7_enough_33 ?_
                  refine r_get hR (by first | decide | assumption | (simp only [gcnt_4, gcnt_1, gcnt_2, gcnt_3, gcnt_12, gcnt_13, gcnt_16]; omega)) fl_X7_16 rfl rfl dX7_enough_34 ?_
                  refine r_aload0 hR dX7_enough_37 ?_
                  refine r_get hR (by first | decide | assumption | (simp only [gcnt_4, gcnt_1, gcnt_2, gcnt_3, gcnt_12, gcnt_13, gcnt_16]; omega)) fl_X7_10 rfl rfl dX7_enough_38 ?_
                  refine r_cv1u hR kv_X7_207 (by decide) (t_X1_become (by decide) (by decide) (by decide) hsN w3) (by first | decide | assumption | (simp only [gcnt_4, gcnt_1, gcnt_2, gcnt_3, gcnt_12, gcnt_13, gcnt_16]; omega)) rfl rfl (Nat.le_of_ble_eq_true rfl) dX7_enough_41 ?_
                  refine r_aload0 hR dX7_enough_44 ?_
                  refine r_get hR (by first | decide | assumption | (simp only [gcnt_4, gcnt_1, gcnt_2, gcnt_3, gcnt_12, gcnt_13, gcnt_16]; omega)) fl_X7_16 rfl rfl dX7_enough_45 ?_
                  refine r_iload3 hR dX7_enough_48 ?_
                  refine r_puti hR (by first | decide | assumption | (simp only [gcnt_4, gcnt_1, gcnt_2, gcnt_3, gcnt_12, gcnt_13, gcnt_16]; omega)) fp_X7_97 rfl rfl (Nat.le_of_ble_eq_true rfl) rfl rfl dX7_enough_49 ?_
                  refine r_mem (M2 := putSea N 1 (va_up (aS A) 1 i)) (putSn_seti_f N 1 (aS A) (aS A 3) i) ?_
                  refine r_aload0 hR dX7_enough_52 ?_
                  refine r_get hR (by first | decide | assumption | (simp only [gcnt_4, gcnt_1, gcnt_2, gcnt_3, gcnt_12, gcnt_13, gcnt_16]; omega)) fl_X7_16 rfl rfl dX7_enough_53 ?_
                  refine r_iload1 hR dX7_enough_56 ?_
                  refine r_cv1v hR kv_X7_161 (by decide) (t_X1_gainIn (by decide) (putSea_P N 1 (va_up (aS A) 1 i)) (hwS (by omega)) (by omega) (by show (va_up (aS A) 1 i) 0 + n < 20000; omega)) (by first | decide | assumption | (simp only [gcnt_4, gcnt_1, gcnt_2, gcnt_3, gcnt_12, gcnt_13, gcnt_16]; omega)) rfl rfl (Nat.le_of_ble_eq_true rfl) dX7_enough_57 ?_
                  have hg := sumsN_le (wf_dayN (n := n) (hwS (by omega)) (by omega))
                  refine r_iload2 hR dX7_enough_60 ?_
                  refine r_icmp_lt hR 66 dX7_enough_61 (by decide) (fun c61 => ?_) (fun c61 => ?_)
                  · try simp (disch := omega) only [nI_ltI, nI_leI, nI_eq, bI_0, Decidable.not_not, lc_lt, lc_gt, lc_ge, lc_le, lc_eq, i64_toInt] at c61
                    try simp (disch := omega) only [cv_lt, cv_le, cv_eq, nI_toInt, cv_0] at c61
                    first
                    | omega
                    | refine r_iinc3 hR (nI 1) (by decide) (fun _ h => by first | (cases h; rfl) | exact absurd h (by simp)) dX7_enough_66 ?_
                      try rw [nI_add]
                      refine r_goto hR 27 dX7_enough_69 (by decide) ?_
                      have ef : firstN (fun f => decide (v ≤ gainN n (va_up (aS A) 1 f))) (j + 1) i = firstN (fun f => decide (v ≤ gainN n (va_up (aS A) 1 f))) j (i + 1) := by
                        conv => lhs; unfold firstN
                        rw [if_neg (by simp only [decide_eq_true_eq]; unfold gainN; omega)]
                      exact ih (i + 1) _ (by omega) (hX.tr ((eqX_put1 N _ (show (va_up (aS A) 1 i) 3 ≤ 8 by omega)).tr (eqX_put1 _ _ (by rw [dayN_3]; omega)))) (by rw [← ef]; exact hf)
                  · try simp (disch := omega) only [nI_ltI, nI_leI, nI_eq, bI_0, Decidable.not_not, lc_lt, lc_gt, lc_ge, lc_le, lc_eq, i64_toInt] at c61
                    try simp (disch := omega) only [cv_lt, cv_le, cv_eq, nI_toInt, cv_0] at c61
                    first
                    | omega
                    | refine r_iload3 hR dX7_enough_64 ?_
                      refine r_iret hR dX7_enough_65 ?_
                      have ef : firstN (fun f => decide (v ≤ gainN n (va_up (aS A) 1 f))) (j + 1) i = i := by
                        unfold firstN
                        rw [if_pos (by simp only [decide_eq_true_eq]; unfold gainN; omega)]
                      refine Qc_eqX (A := A) (hX.tr ((eqX_put1 N _ (show (va_up (aS A) 1 i) 3 ≤ 8 by omega)).tr (eqX_put1 _ _ (by rw [dayN_3]; omega)))) w3 hK8 hc ?_
                      rw [e, ← hf, ef, if_neg (by omega)]
          refine r_iconst hR (nI 0) (by decide) dX7_enough_25 ?_
          refine r_istore3 hR (fun _ h => by first | (cases h; rfl) | exact absurd h (by simp)) dX7_enough_26 ?_
          exact L 10 0 M rfl (eqX.rf M) rfl
      · try simp (disch := omega) only [nI_ltI, nI_leI, nI_eq, bI_0, Decidable.not_not, lc_lt, lc_gt, lc_ge, lc_le, lc_eq, i64_toInt] at c15
        try simp (disch := omega) only [cv_lt, cv_le, cv_eq, nI_toInt, cv_0] at c15
        first
        | omega
        | refine r_aload0 hR dX7_enough_18 ?_
          refine r_ldc hR ct_X7_81 dX7_enough_19 ?_
          refine r_cv1v hR kv_X7_82 (by decide) (t_X7_findingC (n := 0) (by decide) (by decide)) (by first | decide | assumption | (simp only [gcnt_4, gcnt_1, gcnt_2, gcnt_3, gcnt_12, gcnt_13, gcnt_16]; omega)) rfl rfl (Nat.le_of_ble_eq_true rfl) dX7_enough_21 ?_
          refine r_iret hR dX7_enough_24 ?_
          refine Qc_fnd hc (by decide) ?_
          unfold oEnough
          dsimp only [okI, okT]
          (repeat' split) <;> first | rfl | omega

set_option maxHeartbeats 4000000 in
set_option maxRecDepth 100000 in
theorem t_X7_kind {G : gG} {M : gM} {A : gA} {x y : Int32} (hc : clsP M A) (hw : wfA A) : Ct G mX7_kind 6 [.ref (ad G 0 0), .int x, .int y] M (Qc M (oKind A x y)) := by
  obtain ⟨hwf, hday, hwk, hk2, hl, hT, hsh⟩ := id hw
  obtain ⟨w0, w1, w2, w3, wr, wt⟩ := id hwf
  obtain ⟨s0, s2, s3, s4, sr, sth⟩ := id hc.1
  have hK8 : ak A = 1 → aK A 3 ≤ 8 := fun z => (hwk z).1.2.2.2.1
  refine Ct.of (by decide +kernel) (k := 1) (ls0 := [some (.ref (ad G 0 0)), some (.int x), some (.int y), none]) rfl rfl (fun _ _ => trivial) ?_
  intro P hR
  refine r_aload0 hR dX7_kind_0 ?_
  refine r_get hR (by first | decide | assumption | (simp only [gcnt_4, gcnt_1, gcnt_2, gcnt_3, gcnt_12, gcnt_13, gcnt_16]; omega)) fl_X7_10 rfl rfl dX7_kind_1 ?_
  try simp only [s0, s2, s3, s4]
  refine r_iload1 hR dX7_kind_4 ?_
  refine r_cv1v hR kv_X7_121 (by decide) (t_X1_has (by decide) hc.1 w3) (by first | decide | assumption | (simp only [gcnt_4, gcnt_1, gcnt_2, gcnt_3, gcnt_12, gcnt_13, gcnt_16]; omega)) rfl rfl (Nat.le_of_ble_eq_true rfl) dX7_kind_5 ?_
  refine r_if_eq hR 20 dX7_kind_8 (by decide) (fun c8 => ?_) (fun c8 => ?_)
  · try simp (disch := omega) only [nI_ltI, nI_leI, nI_eq, bI_0, Decidable.not_not, lc_lt, lc_gt, lc_ge, lc_le, lc_eq, i64_toInt] at c8
    try simp (disch := omega) only [cv_lt, cv_le, cv_eq, nI_toInt, cv_0] at c8
    first
    | omega
    | refine r_aload0 hR dX7_kind_20 ?_
      refine r_ldc hR ct_X7_81 dX7_kind_21 ?_
      refine r_cv1v hR kv_X7_82 (by decide) (t_X7_findingC (n := 0) (by decide) (by decide)) (by first | decide | assumption | (simp only [gcnt_4, gcnt_1, gcnt_2, gcnt_3, gcnt_12, gcnt_13, gcnt_16]; omega)) rfl rfl (Nat.le_of_ble_eq_true rfl) dX7_kind_23 ?_
      refine r_iret hR dX7_kind_26 ?_
      refine Qc_fnd hc (by decide) ?_
      unfold oKind
      dsimp only [okI, okT]
      (repeat' split) <;> first | rfl | omega
  · try simp (disch := omega) only [nI_ltI, nI_leI, nI_eq, bI_0, Decidable.not_not, lc_lt, lc_gt, lc_ge, lc_le, lc_eq, i64_toInt] at c8
    try simp (disch := omega) only [cv_lt, cv_le, cv_eq, nI_toInt, cv_0] at c8
    first
    | omega
    | refine r_iload2 hR dX7_kind_11 ?_
      refine r_bipush hR (nI 30) (by decide) dX7_kind_12 ?_
      refine r_cs2v hR ks_X7_157 (by decide) (t_X7_isSpan) (Nat.le_of_ble_eq_true rfl) dX7_kind_14 ?_
      refine r_if_ne hR 27 dX7_kind_17 (by decide) (fun c17 => ?_) (fun c17 => ?_)
      · try simp (disch := omega) only [nI_ltI, nI_leI, nI_eq, bI_0, Decidable.not_not, lc_lt, lc_gt, lc_ge, lc_le, lc_eq, i64_toInt] at c17
        try simp (disch := omega) only [cv_lt, cv_le, cv_eq, nI_toInt, cv_0] at c17
        first
        | omega
        | obtain ⟨n, hn, rfl⟩ := of_in (x := y) (N := 30) (by omega)
          simp (disch := omega) only [nI_toInt] at c17
          obtain ⟨t, ht0, rfl⟩ := of_in (x := x) (N := aS A 3 - 1) (by omega)
          have htt : t < aS A 3 := by rw [nI_toInt (by omega)] at c8; omega
          have e : oKind A (nI t) (nI n) = (nI (bstAt (aS A) (11 + 4 * t) 5 n), A) := by
            unfold oKind
            rw [if_pos (by simp (disch := omega) only [okI, okT, nI_toInt]; omega)]
            simp (disch := omega) only [uN_nI]
          have hfg : ∀ v, v ≤ 5 → (fun v => gainN n (va_up (aS A) (11 + 4 * t) v)) v ≤ 99999 * 8 := fun i z => gain_le (wf_th (w := 0) hwf htt (by decide) ⟨fun _ => by omega, fun h => absurd h (by decide), fun h => absurd h (by decide), fun h => absurd h (by decide)⟩) (by show va_up (aS A) (11 + 4 * t) i 0 + n < 20000; rw [vu_o (by omega)]; omega)
          have L : ∀ (j i : Nat) (N : gM), i + j = 5 + 1 → eqX M N → pkB N (fun v => gainN n (va_up (aS A) (11 + 4 * t) v)) i → P 38 [some (.ref (ad G 0 0)), some (.int (nI t)), some (.int (nI n)), some (.int (nI i))] [] N := by
            intro j
            induction j with
            | zero =>
              intro i N hij hX hp
              have hsN := seaP_eqX hX w3 hc.1
              obtain ⟨x0, x2, x3, x4, xr, xth⟩ := id hsN
              have z0 : va_up (aS A) (11 + 4 * t) i 0 = aS A 0 := vu_o (by omega)
              have z3 : va_up (aS A) (11 + 4 * t) i 3 = aS A 3 := vu_o (by omega)
              have hwS : i ≤ 5 → wfS (va_up (aS A) (11 + 4 * t) i) := fun z => wf_th (w := 0) hwf htt (by decide) ⟨fun _ => by omega, fun h => absurd h (by decide), fun h => absurd h (by decide), fun h => absurd h (by decide)⟩
              refine r_iload3 hR dX7_kind_38 ?_
              refine r_bipush hR (nI 6) (by decide) dX7_kind_39 ?_
              refine r_icmp_ge hR 90 dX7_kind_41 (by decide) (fun c41 => ?_) (fun c41 => ?_)
              · try simp (disch := omega) only [nI_ltI, nI_leI, nI_eq, bI_0, Decidable.not_not, lc_lt, lc_gt, lc_ge, lc_le, lc_eq, i64_toInt] at c41
                try simp (disch := omega) only [cv_lt, cv_le, cv_eq, nI_toInt, cv_0] at c41
                first
                | omega
                | refine r_aload0 hR dX7_kind_90 ?_
                  refine r_get hR (by first | decide | assumption | (simp only [gcnt_4, gcnt_1, gcnt_2, gcnt_3, gcnt_12, gcnt_13, gcnt_16]; omega)) fl_X7_46 rfl rfl dX7_kind_91 ?_
                  refine r_get hR (by first | decide | assumption | (simp only [gcnt_4, gcnt_1, gcnt_2, gcnt_3, gcnt_12, gcnt_13, gcnt_16]; omega)) fl_X7_215 rfl rfl dX7_kind_94 ?_
                  refine r_iret hR dX7_kind_97 ?_
                  obtain rfl : i = 5 + 1 := by omega
                  rcases hp with ⟨hz, -⟩ | ⟨k, hk, h70, -⟩
                  · omega
                  · obtain rfl : k = 5 := by omega
                    rw [h70]
                    exact Qc_eqX (A := A) hX w3 hK8 hc e
              · try simp (disch := omega) only [nI_ltI, nI_leI, nI_eq, bI_0, Decidable.not_not, lc_lt, lc_gt, lc_ge, lc_le, lc_eq, i64_toInt] at c41
                try simp (disch := omega) only [cv_lt, cv_le, cv_eq, nI_toInt, cv_0] at c41
                first
                | omega
                | refine r_aload0 hR dX7_kind_44 ?_
                  refine r_get hR (by first | decide | assumption | (simp only [gcnt_4, gcnt_1, gcnt_2, gcnt_3, gcnt_12, gcnt_13, gcnt_16]; omega)) fl_X7_16 rfl rfl dX7_kind_45 ?_
                  refine r_aload0 hR dX7_kind_48 ?_
                  refine r_get hR (by first | decide | assumption | (simp only [gcnt_4, gcnt_1, gcnt_2, gcnt_3, gcnt_12, gcnt_13, gcnt_16]; omega)) fl_X7_10 rfl rfl dX7_kind_49 ?_
                  refine r_cv1u hR kv_X7_207 (by decide) (t_X1_become (by decide) (by decide) (by decide) hsN w3) (by first | decide | assumption | (simp only [gcnt_4, gcnt_1, gcnt_2, gcnt_3, gcnt_12, gcnt_13, gcnt_16]; omega)) rfl rfl (Nat.le_of_ble_eq_true rfl) dX7_kind_52 ?_
                  refine r_aload0 hR dX7_kind_55 ?_
                  refine r_get hR (by first | decide | assumption | (simp only [gcnt_4, gcnt_1, gcnt_2, gcnt_3, gcnt_12, gcnt_13, gcnt_16]; omega)) fl_X7_16 rfl rfl dX7_kind_56 ?_
                  refine r_get hR (by first | decide | assumption | (simp only [gcnt_4, gcnt_1, gcnt_2, gcnt_3, gcnt_12, gcnt_13, gcnt_16]; omega)) fl_X7_124 rfl rfl dX7_kind_59 ?_
                  refine r_iload1 hR dX7_kind_62 ?_
                  refine r_aald hR (t0 := 3) (by first | decide | assumption | (simp only [gcnt_4, gcnt_1, gcnt_2, gcnt_3, gcnt_12, gcnt_13, gcnt_16]; omega)) rfl rfl rfl (by omega) (by decide) rfl dX7_kind_63 ?_
                  refine r_iload3 hR dX7_kind_64 ?_
                  refine r_puti hR (by first | decide | assumption | (simp only [gcnt_4, gcnt_1, gcnt_2, gcnt_3, gcnt_12, gcnt_13, gcnt_16]; omega)) fp_X7_131 rfl rfl (Nat.le_of_ble_eq_true rfl) rfl rfl dX7_kind_65 ?_
                  refine r_mem (M2 := putSea N 1 (va_up (aS A) (11 + 4 * t) i)) ((putSn_seti_t N 1 (aS A) (n := aS A 3) (w := 0) (by omega) (by decide)).trans (by rw [Nat.add_zero]; show putSn N 1 _ (aS A 3) = putSn N 1 _ (va_up (aS A) (11 + 4 * t) i 3); rw [z3])) ?_
                  refine r_aload0 hR dX7_kind_68 ?_
                  refine r_get hR (by first | decide | assumption | (simp only [gcnt_4, gcnt_1, gcnt_2, gcnt_3, gcnt_12, gcnt_13, gcnt_16]; omega)) fl_X7_46 rfl rfl dX7_kind_69 ?_
                  refine r_iload3 hR dX7_kind_72 ?_
                  refine r_aload0 hR dX7_kind_73 ?_
                  refine r_get hR (by first | decide | assumption | (simp only [gcnt_4, gcnt_1, gcnt_2, gcnt_3, gcnt_12, gcnt_13, gcnt_16]; omega)) fl_X7_16 rfl rfl dX7_kind_74 ?_
                  refine r_iload2 hR dX7_kind_77 ?_
                  refine r_cv1v hR kv_X7_161 (by decide) (t_X1_gainIn (by decide) (putSea_P N 1 (va_up (aS A) (11 + 4 * t) i)) (hwS (by omega)) (by omega) (by show (va_up (aS A) (11 + 4 * t) i) 0 + n < 20000; omega)) (by first | decide | assumption | (simp only [gcnt_4, gcnt_1, gcnt_2, gcnt_3, gcnt_12, gcnt_13, gcnt_16]; omega)) rfl rfl (Nat.le_of_ble_eq_true rfl) dX7_kind_78 ?_
                  refine r_cv2u hR kv_X7_211 (by decide) (t_X0_weigh rfl) (by first | decide | assumption | (simp only [gcnt_4, gcnt_1, gcnt_2, gcnt_3, gcnt_12, gcnt_13, gcnt_16]; omega)) rfl rfl (Nat.le_of_ble_eq_true rfl) dX7_kind_81 ?_
                  refine r_iinc3 hR (nI 1) (by decide) (fun _ h => by first | (cases h; rfl) | exact absurd h (by simp)) dX7_kind_84 ?_
                  try rw [nI_add]
                  refine r_goto hR 38 dX7_kind_87 (by decide) ?_
                  omega
            | succ j ih =>
              intro i N hij hX hp
              have hsN := seaP_eqX hX w3 hc.1
              obtain ⟨x0, x2, x3, x4, xr, xth⟩ := id hsN
              have z0 : va_up (aS A) (11 + 4 * t) i 0 = aS A 0 := vu_o (by omega)
              have z3 : va_up (aS A) (11 + 4 * t) i 3 = aS A 3 := vu_o (by omega)
              have hwS : i ≤ 5 → wfS (va_up (aS A) (11 + 4 * t) i) := fun z => wf_th (w := 0) hwf htt (by decide) ⟨fun _ => by omega, fun h => absurd h (by decide), fun h => absurd h (by decide), fun h => absurd h (by decide)⟩
              refine r_iload3 hR dX7_kind_38 ?_
              refine r_bipush hR (nI 6) (by decide) dX7_kind_39 ?_
              refine r_icmp_ge hR 90 dX7_kind_41 (by decide) (fun c41 => ?_) (fun c41 => ?_)
              · try simp (disch := omega) only [nI_ltI, nI_leI, nI_eq, bI_0, Decidable.not_not, lc_lt, lc_gt, lc_ge, lc_le, lc_eq, i64_toInt] at c41
                try simp (disch := omega) only [cv_lt, cv_le, cv_eq, nI_toInt, cv_0] at c41
                first
                | omega
                | refine r_aload0 hR dX7_kind_90 ?_
                  refine r_get hR (by first | decide | assumption | (simp only [gcnt_4, gcnt_1, gcnt_2, gcnt_3, gcnt_12, gcnt_13, gcnt_16]; omega)) fl_X7_46 rfl rfl dX7_kind_91 ?_
                  refine r_get hR (by first | decide | assumption | (simp only [gcnt_4, gcnt_1, gcnt_2, gcnt_3, gcnt_12, gcnt_13, gcnt_16]; omega)) fl_X7_215 rfl rfl dX7_kind_94 ?_
                  refine r_iret hR dX7_kind_97 ?_
                  obtain rfl : i = 5 + 1 := by omega
                  rcases hp with ⟨hz, -⟩ | ⟨k, hk, h70, -⟩
                  · omega
                  · obtain rfl : k = 5 := by omega
                    rw [h70]
                    exact Qc_eqX (A := A) hX w3 hK8 hc e
              · try simp (disch := omega) only [nI_ltI, nI_leI, nI_eq, bI_0, Decidable.not_not, lc_lt, lc_gt, lc_ge, lc_le, lc_eq, i64_toInt] at c41
                try simp (disch := omega) only [cv_lt, cv_le, cv_eq, nI_toInt, cv_0] at c41
                first
                | omega
                | refine r_aload0 hR dX7_kind_44 ?_
                  refine r_get hR (by first | decide | assumption | (simp only [gcnt_4, gcnt_1, gcnt_2, gcnt_3, gcnt_12, gcnt_13, gcnt_16]; omega)) fl_X7_16 rfl rfl dX7_kind_45 ?_
                  refine r_aload0 hR dX7_kind_48 ?_
                  refine r_get hR (by first | decide | assumption | (simp only [gcnt_4, gcnt_1, gcnt_2, gcnt_3, gcnt_12, gcnt_13, gcnt_16]; omega)) fl_X7_10 rfl rfl dX7_kind_49 ?_
                  refine r_cv1u hR kv_X7_207 (by decide) (t_X1_become (by decide) (by decide) (by decide) hsN w3) (by first | decide | assumption | (simp only [gcnt_4, gcnt_1, gcnt_2, gcnt_3, gcnt_12, gcnt_13, gcnt_16]; omega)) rfl rfl (Nat.le_of_ble_eq_true rfl) dX7_kind_52 ?_
                  refine r_aload0 hR dX7_kind_55 ?_
                  refine r_get hR (by first | decide | assumption | (simp only [gcnt_4, gcnt_1, gcnt_2, gcnt_3, gcnt_12, gcnt_13, gcnt_16]; omega)) fl_X7_16 rfl rfl dX7_kind_56 ?_
                  refine r_get hR (by first | decide | assumption | (simp only [gcnt_4, gcnt_1, gcnt_2, gcnt_3, gcnt_12, gcnt_13, gcnt_16]; omega)) fl_X7_124 rfl rfl dX7_kind_59 ?_
                  refine r_iload1 hR dX7_kind_62 ?_
                  refine r_aald hR (t0 := 3) (by first | decide | assumption | (simp only [gcnt_4, gcnt_1, gcnt_2, gcnt_3, gcnt_12, gcnt_13, gcnt_16]; omega)) rfl rfl rfl (by omega) (by decide) rfl dX7_kind_63 ?_
                  refine r_iload3 hR dX7_kind_64 ?_
                  refine r_puti hR (by first | decide | assumption | (simp only [gcnt_4, gcnt_1, gcnt_2, gcnt_3, gcnt_12, gcnt_13, gcnt_16]; omega)) fp_X7_131 rfl rfl (Nat.le_of_ble_eq_true rfl) rfl rfl dX7_kind_65 ?_
                  refine r_mem (M2 := putSea N 1 (va_up (aS A) (11 + 4 * t) i)) ((putSn_seti_t N 1 (aS A) (n := aS A 3) (w := 0) (by omega) (by decide)).trans (by rw [Nat.add_zero]; show putSn N 1 _ (aS A 3) = putSn N 1 _ (va_up (aS A) (11 + 4 * t) i 3); rw [z3])) ?_
                  refine r_aload0 hR dX7_kind_68 ?_
                  refine r_get hR (by first | decide | assumption | (simp only [gcnt_4, gcnt_1, gcnt_2, gcnt_3, gcnt_12, gcnt_13, gcnt_16]; omega)) fl_X7_46 rfl rfl dX7_kind_69 ?_
                  refine r_iload3 hR dX7_kind_72 ?_
                  refine r_aload0 hR dX7_kind_73 ?_
                  refine r_get hR (by first | decide | assumption | (simp only [gcnt_4, gcnt_1, gcnt_2, gcnt_3, gcnt_12, gcnt_13, gcnt_16]; omega)) fl_X7_16 rfl rfl dX7_kind_74 ?_
                  refine r_iload2 hR dX7_kind_77 ?_
                  refine r_cv1v hR kv_X7_161 (by decide) (t_X1_gainIn (by decide) (putSea_P N 1 (va_up (aS A) (11 + 4 * t) i)) (hwS (by omega)) (by omega) (by show (va_up (aS A) (11 + 4 * t) i) 0 + n < 20000; omega)) (by first | decide | assumption | (simp only [gcnt_4, gcnt_1, gcnt_2, gcnt_3, gcnt_12, gcnt_13, gcnt_16]; omega)) rfl rfl (Nat.le_of_ble_eq_true rfl) dX7_kind_78 ?_
                  refine r_cv2u hR kv_X7_211 (by decide) (t_X0_weigh rfl) (by first | decide | assumption | (simp only [gcnt_4, gcnt_1, gcnt_2, gcnt_3, gcnt_12, gcnt_13, gcnt_16]; omega)) rfl rfl (Nat.le_of_ble_eq_true rfl) dX7_kind_81 ?_
                  refine r_iinc3 hR (nI 1) (by decide) (fun _ h => by first | (cases h; rfl) | exact absurd h (by simp)) dX7_kind_84 ?_
                  try rw [nI_add]
                  refine r_goto hR 38 dX7_kind_87 (by decide) ?_
                  have hpk : pkB (putSea (putSea N 1 (va_up (aS A) (11 + 4 * t) i)) 1 (dayN n (va_up (aS A) (11 + 4 * t) i))) (fun v => gainN n (va_up (aS A) (11 + 4 * t) v)) i := by unfold pkB at hp ⊢; simp only [put_7]; exact hp
                  have hok := pkB_ok (m := 5) (hX.tr ((eqX_put1 N _ (show (va_up (aS A) (11 + 4 * t) i) 3 ≤ 8 by omega)).tr (eqX_put1 _ _ (by rw [dayN_3]; omega)))) hpk rfl hfg (by omega)
                  exact ih (i + 1) _ (by omega) hok.1 hok.2
          refine r_aload0 hR dX7_kind_27 ?_
          refine r_get hR (by first | decide | assumption | (simp only [gcnt_4, gcnt_1, gcnt_2, gcnt_3, gcnt_12, gcnt_13, gcnt_16]; omega)) fl_X7_46 rfl rfl dX7_kind_28 ?_
          try simp only [s0, s2, s3, s4]
          refine r_ldc hR ct_X7_220 dX7_kind_31 ?_
          refine r_cv1u hR kv_X7_210 (by decide) (t_X0_begin) (by first | decide | assumption | (simp only [gcnt_4, gcnt_1, gcnt_2, gcnt_3, gcnt_12, gcnt_13, gcnt_16]; omega)) rfl rfl (Nat.le_of_ble_eq_true rfl) dX7_kind_33 ?_
          refine r_iconst hR (nI 0) (by decide) dX7_kind_36 ?_
          refine r_istore3 hR (fun _ h => by first | (cases h; rfl) | exact absurd h (by simp)) dX7_kind_37 ?_
          exact L (5 + 1) 0 _ (by omega) ((eqX_seti M (by unfold scr; omega)).tr (eqX_seti _ (by unfold scr; omega))) (Or.inl ⟨rfl, by simp [seti_r]⟩)
      · try simp (disch := omega) only [nI_ltI, nI_leI, nI_eq, bI_0, Decidable.not_not, lc_lt, lc_gt, lc_ge, lc_le, lc_eq, i64_toInt] at c17
        try simp (disch := omega) only [cv_lt, cv_le, cv_eq, nI_toInt, cv_0] at c17
        first
        | omega
        | refine r_aload0 hR dX7_kind_20 ?_
          refine r_ldc hR ct_X7_81 dX7_kind_21 ?_
          refine r_cv1v hR kv_X7_82 (by decide) (t_X7_findingC (n := 0) (by decide) (by decide)) (by first | decide | assumption | (simp only [gcnt_4, gcnt_1, gcnt_2, gcnt_3, gcnt_12, gcnt_13, gcnt_16]; omega)) rfl rfl (Nat.le_of_ble_eq_true rfl) dX7_kind_23 ?_
          refine r_iret hR dX7_kind_26 ?_
          refine Qc_fnd hc (by decide) ?_
          unfold oKind
          dsimp only [okI, okT]
          (repeat' split) <;> first | rfl | omega

set_option maxHeartbeats 4000000 in
set_option maxRecDepth 100000 in
theorem t_X7_facing {G : gG} {M : gM} {A : gA} {x y : Int32} (hc : clsP M A) (hw : wfA A) : Ct G mX7_facing 6 [.ref (ad G 0 0), .int x, .int y] M (Qc M (oFacing A x y)) := by
  obtain ⟨hwf, hday, hwk, hk2, hl, hT, hsh⟩ := id hw
  obtain ⟨w0, w1, w2, w3, wr, wt⟩ := id hwf
  obtain ⟨s0, s2, s3, s4, sr, sth⟩ := id hc.1
  have hK8 : ak A = 1 → aK A 3 ≤ 8 := fun z => (hwk z).1.2.2.2.1
  refine Ct.of (by decide +kernel) (k := 1) (ls0 := [some (.ref (ad G 0 0)), some (.int x), some (.int y), none]) rfl rfl (fun _ _ => trivial) ?_
  intro P hR
  refine r_aload0 hR dX7_facing_0 ?_
  refine r_get hR (by first | decide | assumption | (simp only [gcnt_4, gcnt_1, gcnt_2, gcnt_3, gcnt_12, gcnt_13, gcnt_16]; omega)) fl_X7_10 rfl rfl dX7_facing_1 ?_
  try simp only [s0, s2, s3, s4]
  refine r_iload1 hR dX7_facing_4 ?_
  refine r_cv1v hR kv_X7_121 (by decide) (t_X1_has (by decide) hc.1 w3) (by first | decide | assumption | (simp only [gcnt_4, gcnt_1, gcnt_2, gcnt_3, gcnt_12, gcnt_13, gcnt_16]; omega)) rfl rfl (Nat.le_of_ble_eq_true rfl) dX7_facing_5 ?_
  refine r_if_eq hR 20 dX7_facing_8 (by decide) (fun c8 => ?_) (fun c8 => ?_)
  · try simp (disch := omega) only [nI_ltI, nI_leI, nI_eq, bI_0, Decidable.not_not, lc_lt, lc_gt, lc_ge, lc_le, lc_eq, i64_toInt] at c8
    try simp (disch := omega) only [cv_lt, cv_le, cv_eq, nI_toInt, cv_0] at c8
    first
    | omega
    | refine r_aload0 hR dX7_facing_20 ?_
      refine r_ldc hR ct_X7_81 dX7_facing_21 ?_
      refine r_cv1v hR kv_X7_82 (by decide) (t_X7_findingC (n := 0) (by decide) (by decide)) (by first | decide | assumption | (simp only [gcnt_4, gcnt_1, gcnt_2, gcnt_3, gcnt_12, gcnt_13, gcnt_16]; omega)) rfl rfl (Nat.le_of_ble_eq_true rfl) dX7_facing_23 ?_
      refine r_iret hR dX7_facing_26 ?_
      refine Qc_fnd hc (by decide) ?_
      unfold oFacing
      dsimp only [okI, okT]
      (repeat' split) <;> first | rfl | omega
  · try simp (disch := omega) only [nI_ltI, nI_leI, nI_eq, bI_0, Decidable.not_not, lc_lt, lc_gt, lc_ge, lc_le, lc_eq, i64_toInt] at c8
    try simp (disch := omega) only [cv_lt, cv_le, cv_eq, nI_toInt, cv_0] at c8
    first
    | omega
    | refine r_iload2 hR dX7_facing_11 ?_
      refine r_bipush hR (nI 30) (by decide) dX7_facing_12 ?_
      refine r_cs2v hR ks_X7_157 (by decide) (t_X7_isSpan) (Nat.le_of_ble_eq_true rfl) dX7_facing_14 ?_
      refine r_if_ne hR 27 dX7_facing_17 (by decide) (fun c17 => ?_) (fun c17 => ?_)
      · try simp (disch := omega) only [nI_ltI, nI_leI, nI_eq, bI_0, Decidable.not_not, lc_lt, lc_gt, lc_ge, lc_le, lc_eq, i64_toInt] at c17
        try simp (disch := omega) only [cv_lt, cv_le, cv_eq, nI_toInt, cv_0] at c17
        first
        | omega
        | obtain ⟨n, hn, rfl⟩ := of_in (x := y) (N := 30) (by omega)
          simp (disch := omega) only [nI_toInt] at c17
          obtain ⟨t, ht0, rfl⟩ := of_in (x := x) (N := aS A 3 - 1) (by omega)
          have htt : t < aS A 3 := by rw [nI_toInt (by omega)] at c8; omega
          have e : oFacing A (nI t) (nI n) = (nI (bstAt (aS A) (11 + 4 * t + 2) 7 n), A) := by
            unfold oFacing
            rw [if_pos (by simp (disch := omega) only [okI, okT, nI_toInt]; omega)]
            simp (disch := omega) only [uN_nI]
          have hfg : ∀ v, v ≤ 7 → (fun v => gainN n (va_up (aS A) (11 + 4 * t + 2) v)) v ≤ 99999 * 8 := fun i z => gain_le (wf_th (w := 2) hwf htt (by decide) ⟨fun h => absurd h (by decide), fun h => absurd h (by decide), fun _ => by omega, fun h => absurd h (by decide)⟩) (by show va_up (aS A) (11 + 4 * t + 2) i 0 + n < 20000; rw [vu_o (by omega)]; omega)
          have L : ∀ (j i : Nat) (N : gM), i + j = 7 + 1 → eqX M N → pkB N (fun v => gainN n (va_up (aS A) (11 + 4 * t + 2) v)) i → P 38 [some (.ref (ad G 0 0)), some (.int (nI t)), some (.int (nI n)), some (.int (nI i))] [] N := by
            intro j
            induction j with
            | zero =>
              intro i N hij hX hp
              have hsN := seaP_eqX hX w3 hc.1
              obtain ⟨x0, x2, x3, x4, xr, xth⟩ := id hsN
              have z0 : va_up (aS A) (11 + 4 * t + 2) i 0 = aS A 0 := vu_o (by omega)
              have z3 : va_up (aS A) (11 + 4 * t + 2) i 3 = aS A 3 := vu_o (by omega)
              have hwS : i ≤ 7 → wfS (va_up (aS A) (11 + 4 * t + 2) i) := fun z => wf_th (w := 2) hwf htt (by decide) ⟨fun h => absurd h (by decide), fun h => absurd h (by decide), fun _ => by omega, fun h => absurd h (by decide)⟩
              refine r_iload3 hR dX7_facing_38 ?_
              refine r_bipush hR (nI 8) (by decide) dX7_facing_39 ?_
              refine r_icmp_ge hR 90 dX7_facing_41 (by decide) (fun c41 => ?_) (fun c41 => ?_)
              · try simp (disch := omega) only [nI_ltI, nI_leI, nI_eq, bI_0, Decidable.not_not, lc_lt, lc_gt, lc_ge, lc_le, lc_eq, i64_toInt] at c41
                try simp (disch := omega) only [cv_lt, cv_le, cv_eq, nI_toInt, cv_0] at c41
                first
                | omega
                | refine r_aload0 hR dX7_facing_90 ?_
                  refine r_get hR (by first | decide | assumption | (simp only [gcnt_4, gcnt_1, gcnt_2, gcnt_3, gcnt_12, gcnt_13, gcnt_16]; omega)) fl_X7_46 rfl rfl dX7_facing_91 ?_
                  refine r_get hR (by first | decide | assumption | (simp only [gcnt_4, gcnt_1, gcnt_2, gcnt_3, gcnt_12, gcnt_13, gcnt_16]; omega)) fl_X7_215 rfl rfl dX7_facing_94 ?_
                  refine r_iret hR dX7_facing_97 ?_
                  obtain rfl : i = 7 + 1 := by omega
                  rcases hp with ⟨hz, -⟩ | ⟨k, hk, h70, -⟩
                  · omega
                  · obtain rfl : k = 7 := by omega
                    rw [h70]
                    exact Qc_eqX (A := A) hX w3 hK8 hc e
              · try simp (disch := omega) only [nI_ltI, nI_leI, nI_eq, bI_0, Decidable.not_not, lc_lt, lc_gt, lc_ge, lc_le, lc_eq, i64_toInt] at c41
                try simp (disch := omega) only [cv_lt, cv_le, cv_eq, nI_toInt, cv_0] at c41
                first
                | omega
                | refine r_aload0 hR dX7_facing_44 ?_
                  refine r_get hR (by first | decide | assumption | (simp only [gcnt_4, gcnt_1, gcnt_2, gcnt_3, gcnt_12, gcnt_13, gcnt_16]; omega)) fl_X7_16 rfl rfl dX7_facing_45 ?_
                  refine r_aload0 hR dX7_facing_48 ?_
                  refine r_get hR (by first | decide | assumption | (simp only [gcnt_4, gcnt_1, gcnt_2, gcnt_3, gcnt_12, gcnt_13, gcnt_16]; omega)) fl_X7_10 rfl rfl dX7_facing_49 ?_
                  refine r_cv1u hR kv_X7_207 (by decide) (t_X1_become (by decide) (by decide) (by decide) hsN w3) (by first | decide | assumption | (simp only [gcnt_4, gcnt_1, gcnt_2, gcnt_3, gcnt_12, gcnt_13, gcnt_16]; omega)) rfl rfl (Nat.le_of_ble_eq_true rfl) dX7_facing_52 ?_
                  refine r_aload0 hR dX7_facing_55 ?_
                  refine r_get hR (by first | decide | assumption | (simp only [gcnt_4, gcnt_1, gcnt_2, gcnt_3, gcnt_12, gcnt_13, gcnt_16]; omega)) fl_X7_16 rfl rfl dX7_facing_56 ?_
                  refine r_get hR (by first | decide | assumption | (simp only [gcnt_4, gcnt_1, gcnt_2, gcnt_3, gcnt_12, gcnt_13, gcnt_16]; omega)) fl_X7_124 rfl rfl dX7_facing_59 ?_
                  refine r_iload1 hR dX7_facing_62 ?_
                  refine r_aald hR (t0 := 3) (by first | decide | assumption | (simp only [gcnt_4, gcnt_1, gcnt_2, gcnt_3, gcnt_12, gcnt_13, gcnt_16]; omega)) rfl rfl rfl (by omega) (by decide) rfl dX7_facing_63 ?_
                  refine r_iload3 hR dX7_facing_64 ?_
                  refine r_puti hR (by first | decide | assumption | (simp only [gcnt_4, gcnt_1, gcnt_2, gcnt_3, gcnt_12, gcnt_13, gcnt_16]; omega)) fp_X7_137 rfl rfl (Nat.le_of_ble_eq_true rfl) rfl rfl dX7_facing_65 ?_
                  refine r_mem (M2 := putSea N 1 (va_up (aS A) (11 + 4 * t + 2) i)) ((putSn_seti_t N 1 (aS A) (n := aS A 3) (w := 2) (by omega) (by decide)).trans (by show putSn N 1 _ (aS A 3) = putSn N 1 _ (va_up (aS A) (11 + 4 * t + 2) i 3); rw [z3])) ?_
                  refine r_aload0 hR dX7_facing_68 ?_
                  refine r_get hR (by first | decide | assumption | (simp only [gcnt_4, gcnt_1, gcnt_2, gcnt_3, gcnt_12, gcnt_13, gcnt_16]; omega)) fl_X7_46 rfl rfl dX7_facing_69 ?_
                  refine r_iload3 hR dX7_facing_72 ?_
                  refine r_aload0 hR dX7_facing_73 ?_
                  refine r_get hR (by first | decide | assumption | (simp only [gcnt_4, gcnt_1, gcnt_2, gcnt_3, gcnt_12, gcnt_13, gcnt_16]; omega)) fl_X7_16 rfl rfl dX7_facing_74 ?_
                  refine r_iload2 hR dX7_facing_77 ?_
                  refine r_cv1v hR kv_X7_161 (by decide) (t_X1_gainIn (by decide) (putSea_P N 1 (va_up (aS A) (11 + 4 * t + 2) i)) (hwS (by omega)) (by omega) (by show (va_up (aS A) (11 + 4 * t + 2) i) 0 + n < 20000; omega)) (by first | decide | assumption | (simp only [gcnt_4, gcnt_1, gcnt_2, gcnt_3, gcnt_12, gcnt_13, gcnt_16]; omega)) rfl rfl (Nat.le_of_ble_eq_true rfl) dX7_facing_78 ?_
                  refine r_cv2u hR kv_X7_211 (by decide) (t_X0_weigh rfl) (by first | decide | assumption | (simp only [gcnt_4, gcnt_1, gcnt_2, gcnt_3, gcnt_12, gcnt_13, gcnt_16]; omega)) rfl rfl (Nat.le_of_ble_eq_true rfl) dX7_facing_81 ?_
                  refine r_iinc3 hR (nI 1) (by decide) (fun _ h => by first | (cases h; rfl) | exact absurd h (by simp)) dX7_facing_84 ?_
                  try rw [nI_add]
                  refine r_goto hR 38 dX7_facing_87 (by decide) ?_
                  omega
            | succ j ih =>
              intro i N hij hX hp
              have hsN := seaP_eqX hX w3 hc.1
              obtain ⟨x0, x2, x3, x4, xr, xth⟩ := id hsN
              have z0 : va_up (aS A) (11 + 4 * t + 2) i 0 = aS A 0 := vu_o (by omega)
              have z3 : va_up (aS A) (11 + 4 * t + 2) i 3 = aS A 3 := vu_o (by omega)
              have hwS : i ≤ 7 → wfS (va_up (aS A) (11 + 4 * t + 2) i) := fun z => wf_th (w := 2) hwf htt (by decide) ⟨fun h => absurd h (by decide), fun h => absurd h (by decide), fun _ => by omega, fun h => absurd h (by decide)⟩
              refine r_iload3 hR dX7_facing_38 ?_
              refine r_bipush hR (nI 8) (by decide) dX7_facing_39 ?_
              refine r_icmp_ge hR 90 dX7_facing_41 (by decide) (fun c41 => ?_) (fun c41 => ?_)
              · try simp (disch := omega) only [nI_ltI, nI_leI, nI_eq, bI_0, Decidable.not_not, lc_lt, lc_gt, lc_ge, lc_le, lc_eq, i64_toInt] at c41
                try simp (disch := omega) only [cv_lt, cv_le, cv_eq, nI_toInt, cv_0] at c41
                first
                | omega
                | refine r_aload0 hR dX7_facing_90 ?_
                  refine r_get hR (by first | decide | assumption | (simp only [gcnt_4, gcnt_1, gcnt_2, gcnt_3, gcnt_12, gcnt_13, gcnt_16]; omega)) fl_X7_46 rfl rfl dX7_facing_91 ?_
                  refine r_get hR (by first | decide | assumption | (simp only [gcnt_4, gcnt_1, gcnt_2, gcnt_3, gcnt_12, gcnt_13, gcnt_16]; omega)) fl_X7_215 rfl rfl dX7_facing_94 ?_
                  refine r_iret hR dX7_facing_97 ?_
                  obtain rfl : i = 7 + 1 := by omega
                  rcases hp with ⟨hz, -⟩ | ⟨k, hk, h70, -⟩
                  · omega
                  · obtain rfl : k = 7 := by omega
                    rw [h70]
                    exact Qc_eqX (A := A) hX w3 hK8 hc e
              · try simp (disch := omega) only [nI_ltI, nI_leI, nI_eq, bI_0, Decidable.not_not, lc_lt, lc_gt, lc_ge, lc_le, lc_eq, i64_toInt] at c41
                try simp (disch := omega) only [cv_lt, cv_le, cv_eq, nI_toInt, cv_0] at c41
                first
                | omega
                | refine r_aload0 hR dX7_facing_44 ?_
                  refine r_get hR (by first | decide | assumption | (simp only [gcnt_4, gcnt_1, gcnt_2, gcnt_3, gcnt_12, gcnt_13, gcnt_16]; omega)) fl_X7_16 rfl rfl dX7_facing_45 ?_
                  refine r_aload0 hR dX7_facing_48 ?_
                  refine r_get hR (by first | decide | assumption | (simp only [gcnt_4, gcnt_1, gcnt_2, gcnt_3, gcnt_12, gcnt_13, gcnt_16]; omega)) fl_X7_10 rfl rfl dX7_facing_49 ?_
                  refine r_cv1u hR kv_X7_207 (by decide) (t_X1_become (by decide) (by decide) (by decide) hsN w3) (by first | decide | assumption | (simp only [gcnt_4, gcnt_1, gcnt_2, gcnt_3, gcnt_12, gcnt_13, gcnt_16]; omega)) rfl rfl (Nat.le_of_ble_eq_true rfl) dX7_facing_52 ?_
                  refine r_aload0 hR dX7_facing_55 ?_
                  refine r_get hR (by first | decide | assumption | (simp only [gcnt_4, gcnt_1, gcnt_2, gcnt_3, gcnt_12, gcnt_13, gcnt_16]; omega)) fl_X7_16 rfl rfl dX7_facing_56 ?_
                  refine r_get hR (by first | decide | assumption | (simp only [gcnt_4, gcnt_1, gcnt_2, gcnt_3, gcnt_12, gcnt_13, gcnt_16]; omega)) fl_X7_124 rfl rfl dX7_facing_59 ?_
                  refine r_iload1 hR dX7_facing_62 ?_
                  refine r_aald hR (t0 := 3) (by first | decide | assumption | (simp only [gcnt_4, gcnt_1, gcnt_2, gcnt_3, gcnt_12, gcnt_13, gcnt_16]; omega)) rfl rfl rfl (by omega) (by decide) rfl dX7_facing_63 ?_
                  refine r_iload3 hR dX7_facing_64 ?_
                  refine r_puti hR (by first | decide | assumption | (simp only [gcnt_4, gcnt_1, gcnt_2, gcnt_3, gcnt_12, gcnt_13, gcnt_16]; omega)) fp_X7_137 rfl rfl (Nat.le_of_ble_eq_true rfl) rfl rfl dX7_facing_65 ?_
                  refine r_mem (M2 := putSea N 1 (va_up (aS A) (11 + 4 * t + 2) i)) ((putSn_seti_t N 1 (aS A) (n := aS A 3) (w := 2) (by omega) (by decide)).trans (by show putSn N 1 _ (aS A 3) = putSn N 1 _ (va_up (aS A) (11 + 4 * t + 2) i 3); rw [z3])) ?_
                  refine r_aload0 hR dX7_facing_68 ?_
                  refine r_get hR (by first | decide | assumption | (simp only [gcnt_4, gcnt_1, gcnt_2, gcnt_3, gcnt_12, gcnt_13, gcnt_16]; omega)) fl_X7_46 rfl rfl dX7_facing_69 ?_
                  refine r_iload3 hR dX7_facing_72 ?_
                  refine r_aload0 hR dX7_facing_73 ?_
                  refine r_get hR (by first | decide | assumption | (simp only [gcnt_4, gcnt_1, gcnt_2, gcnt_3, gcnt_12, gcnt_13, gcnt_16]; omega)) fl_X7_16 rfl rfl dX7_facing_74 ?_
                  refine r_iload2 hR dX7_facing_77 ?_
                  refine r_cv1v hR kv_X7_161 (by decide) (t_X1_gainIn (by decide) (putSea_P N 1 (va_up (aS A) (11 + 4 * t + 2) i)) (hwS (by omega)) (by omega) (by show (va_up (aS A) (11 + 4 * t + 2) i) 0 + n < 20000; omega)) (by first | decide | assumption | (simp only [gcnt_4, gcnt_1, gcnt_2, gcnt_3, gcnt_12, gcnt_13, gcnt_16]; omega)) rfl rfl (Nat.le_of_ble_eq_true rfl) dX7_facing_78 ?_
                  refine r_cv2u hR kv_X7_211 (by decide) (t_X0_weigh rfl) (by first | decide | assumption | (simp only [gcnt_4, gcnt_1, gcnt_2, gcnt_3, gcnt_12, gcnt_13, gcnt_16]; omega)) rfl rfl (Nat.le_of_ble_eq_true rfl) dX7_facing_81 ?_
                  refine r_iinc3 hR (nI 1) (by decide) (fun _ h => by first | (cases h; rfl) | exact absurd h (by simp)) dX7_facing_84 ?_
                  try rw [nI_add]
                  refine r_goto hR 38 dX7_facing_87 (by decide) ?_
                  have hpk : pkB (putSea (putSea N 1 (va_up (aS A) (11 + 4 * t + 2) i)) 1 (dayN n (va_up (aS A) (11 + 4 * t + 2) i))) (fun v => gainN n (va_up (aS A) (11 + 4 * t + 2) v)) i := by unfold pkB at hp ⊢; simp only [put_7]; exact hp
                  have hok := pkB_ok (m := 7) (hX.tr ((eqX_put1 N _ (show (va_up (aS A) (11 + 4 * t + 2) i) 3 ≤ 8 by omega)).tr (eqX_put1 _ _ (by rw [dayN_3]; omega)))) hpk rfl hfg (by omega)
                  exact ih (i + 1) _ (by omega) hok.1 hok.2
          refine r_aload0 hR dX7_facing_27 ?_
          refine r_get hR (by first | decide | assumption | (simp only [gcnt_4, gcnt_1, gcnt_2, gcnt_3, gcnt_12, gcnt_13, gcnt_16]; omega)) fl_X7_46 rfl rfl dX7_facing_28 ?_
          try simp only [s0, s2, s3, s4]
          refine r_ldc hR ct_X7_220 dX7_facing_31 ?_
          refine r_cv1u hR kv_X7_210 (by decide) (t_X0_begin) (by first | decide | assumption | (simp only [gcnt_4, gcnt_1, gcnt_2, gcnt_3, gcnt_12, gcnt_13, gcnt_16]; omega)) rfl rfl (Nat.le_of_ble_eq_true rfl) dX7_facing_33 ?_
          refine r_iconst hR (nI 0) (by decide) dX7_facing_36 ?_
          refine r_istore3 hR (fun _ h => by first | (cases h; rfl) | exact absurd h (by simp)) dX7_facing_37 ?_
          exact L (7 + 1) 0 _ (by omega) ((eqX_seti M (by unfold scr; omega)).tr (eqX_seti _ (by unfold scr; omega))) (Or.inl ⟨rfl, by simp [seti_r]⟩)
      · try simp (disch := omega) only [nI_ltI, nI_leI, nI_eq, bI_0, Decidable.not_not, lc_lt, lc_gt, lc_ge, lc_le, lc_eq, i64_toInt] at c17
        try simp (disch := omega) only [cv_lt, cv_le, cv_eq, nI_toInt, cv_0] at c17
        first
        | omega
        | refine r_aload0 hR dX7_facing_20 ?_
          refine r_ldc hR ct_X7_81 dX7_facing_21 ?_
          refine r_cv1v hR kv_X7_82 (by decide) (t_X7_findingC (n := 0) (by decide) (by decide)) (by first | decide | assumption | (simp only [gcnt_4, gcnt_1, gcnt_2, gcnt_3, gcnt_12, gcnt_13, gcnt_16]; omega)) rfl rfl (Nat.le_of_ble_eq_true rfl) dX7_facing_23 ?_
          refine r_iret hR dX7_facing_26 ?_
          refine Qc_fnd hc (by decide) ?_
          unfold oFacing
          dsimp only [okI, okT]
          (repeat' split) <;> first | rfl | omega

set_option maxHeartbeats 4000000 in
set_option maxRecDepth 100000 in
theorem t_X7_best {G : gG} {M : gM} {A : gA} {x y : Int32} (hc : clsP M A) (hw : wfA A) : Ct G mX7_best 6 [.ref (ad G 0 0), .int x, .int y] M (Qc M (oBest A x y)) := by
  obtain ⟨hwf, hday, hwk, hk2, hl, hT, hsh⟩ := id hw
  obtain ⟨w0, w1, w2, w3, wr, wt⟩ := id hwf
  obtain ⟨s0, s2, s3, s4, sr, sth⟩ := id hc.1
  have hK8 : ak A = 1 → aK A 3 ≤ 8 := fun z => (hwk z).1.2.2.2.1
  refine Ct.of (by decide +kernel) (k := 1) (ls0 := [some (.ref (ad G 0 0)), some (.int x), some (.int y), none]) rfl rfl (fun _ _ => trivial) ?_
  intro P hR
  refine r_iload1 hR dX7_best_0 ?_
  refine r_bipush hR (nI 6) (by decide) dX7_best_1 ?_
  refine r_cs2v hR ks_X7_77 (by decide) (t_X7_within) (Nat.le_of_ble_eq_true rfl) dX7_best_3 ?_
  refine r_if_eq hR 18 dX7_best_6 (by decide) (fun c6 => ?_) (fun c6 => ?_)
  · try simp (disch := omega) only [nI_ltI, nI_leI, nI_eq, bI_0, Decidable.not_not, lc_lt, lc_gt, lc_ge, lc_le, lc_eq, i64_toInt] at c6
    try simp (disch := omega) only [cv_lt, cv_le, cv_eq, nI_toInt, cv_0] at c6
    first
    | omega
    | refine r_aload0 hR dX7_best_18 ?_
      refine r_ldc hR ct_X7_81 dX7_best_19 ?_
      refine r_cv1v hR kv_X7_82 (by decide) (t_X7_findingC (n := 0) (by decide) (by decide)) (by first | decide | assumption | (simp only [gcnt_4, gcnt_1, gcnt_2, gcnt_3, gcnt_12, gcnt_13, gcnt_16]; omega)) rfl rfl (Nat.le_of_ble_eq_true rfl) dX7_best_21 ?_
      refine r_iret hR dX7_best_24 ?_
      refine Qc_fnd hc (by decide) ?_
      unfold oBest
      dsimp only [okI, okT]
      (repeat' split) <;> first | rfl | omega
  · try simp (disch := omega) only [nI_ltI, nI_leI, nI_eq, bI_0, Decidable.not_not, lc_lt, lc_gt, lc_ge, lc_le, lc_eq, i64_toInt] at c6
    try simp (disch := omega) only [cv_lt, cv_le, cv_eq, nI_toInt, cv_0] at c6
    first
    | omega
    | refine r_iload2 hR dX7_best_9 ?_
      refine r_bipush hR (nI 30) (by decide) dX7_best_10 ?_
      refine r_cs2v hR ks_X7_157 (by decide) (t_X7_isSpan) (Nat.le_of_ble_eq_true rfl) dX7_best_12 ?_
      refine r_if_ne hR 25 dX7_best_15 (by decide) (fun c15 => ?_) (fun c15 => ?_)
      · try simp (disch := omega) only [nI_ltI, nI_leI, nI_eq, bI_0, Decidable.not_not, lc_lt, lc_gt, lc_ge, lc_le, lc_eq, i64_toInt] at c15
        try simp (disch := omega) only [cv_lt, cv_le, cv_eq, nI_toInt, cv_0] at c15
        first
        | omega
        | obtain ⟨d, hd, rfl⟩ := of_in (x := x) (N := 6) (by omega)
          obtain ⟨n, hn, rfl⟩ := of_in (x := y) (N := 30) (by omega)
          simp (disch := omega) only [nI_toInt] at c15
          have e : oBest A (nI d) (nI n) = (nI (bstAt (aS A) (4 + d) 8 n), A) := by
            unfold oBest
            rw [if_pos (by simp (disch := omega) only [okI, okT, nI_toInt]; omega)]
            simp (disch := omega) only [uN_nI]
          have hfg : ∀ v, v ≤ 8 → (fun v => gainN n (va_up (aS A) (4 + d) v)) v ≤ 99999 * 8 := fun i z => gain_le (wf_rota hwf (by omega) (by omega)) (by show va_up (aS A) (4 + d) i 0 + n < 20000; rw [vu_o (by omega)]; omega)
          have L : ∀ (j i : Nat) (N : gM), i + j = 8 + 1 → eqX M N → pkB N (fun v => gainN n (va_up (aS A) (4 + d) v)) i → P 36 [some (.ref (ad G 0 0)), some (.int (nI d)), some (.int (nI n)), some (.int (nI i))] [] N := by
            intro j
            induction j with
            | zero =>
              intro i N hij hX hp
              have hsN := seaP_eqX hX w3 hc.1
              obtain ⟨x0, x2, x3, x4, xr, xth⟩ := id hsN
              have z0 : va_up (aS A) (4 + d) i 0 = aS A 0 := vu_o (by omega)
              have z3 : va_up (aS A) (4 + d) i 3 = aS A 3 := vu_o (by omega)
              have hwS : i ≤ 8 → wfS (va_up (aS A) (4 + d) i) := fun z => wf_rota hwf (by omega) (by omega)
              refine r_iload3 hR dX7_best_36 ?_
              refine r_bipush hR (nI 8) (by decide) dX7_best_37 ?_
              refine r_icmp_gt hR 85 dX7_best_39 (by decide) (fun c39 => ?_) (fun c39 => ?_)
              · try simp (disch := omega) only [nI_ltI, nI_leI, nI_eq, bI_0, Decidable.not_not, lc_lt, lc_gt, lc_ge, lc_le, lc_eq, i64_toInt] at c39
                try simp (disch := omega) only [cv_lt, cv_le, cv_eq, nI_toInt, cv_0] at c39
                first
                | omega
                | refine r_aload0 hR dX7_best_85 ?_
                  refine r_get hR (by first | decide | assumption | (simp only [gcnt_4, gcnt_1, gcnt_2, gcnt_3, gcnt_12, gcnt_13, gcnt_16]; omega)) fl_X7_46 rfl rfl dX7_best_86 ?_
                  refine r_get hR (by first | decide | assumption | (simp only [gcnt_4, gcnt_1, gcnt_2, gcnt_3, gcnt_12, gcnt_13, gcnt_16]; omega)) fl_X7_215 rfl rfl dX7_best_89 ?_
                  refine r_iret hR dX7_best_92 ?_
                  obtain rfl : i = 8 + 1 := by omega
                  rcases hp with ⟨hz, -⟩ | ⟨k, hk, h70, -⟩
                  · omega
                  · obtain rfl : k = 8 := by omega
                    rw [h70]
                    exact Qc_eqX (A := A) hX w3 hK8 hc e
              · try simp (disch := omega) only [nI_ltI, nI_leI, nI_eq, bI_0, Decidable.not_not, lc_lt, lc_gt, lc_ge, lc_le, lc_eq, i64_toInt] at c39
                try simp (disch := omega) only [cv_lt, cv_le, cv_eq, nI_toInt, cv_0] at c39
                first
                | omega
                | refine r_aload0 hR dX7_best_42 ?_
                  refine r_get hR (by first | decide | assumption | (simp only [gcnt_4, gcnt_1, gcnt_2, gcnt_3, gcnt_12, gcnt_13, gcnt_16]; omega)) fl_X7_16 rfl rfl dX7_best_43 ?_
                  refine r_aload0 hR dX7_best_46 ?_
                  refine r_get hR (by first | decide | assumption | (simp only [gcnt_4, gcnt_1, gcnt_2, gcnt_3, gcnt_12, gcnt_13, gcnt_16]; omega)) fl_X7_10 rfl rfl dX7_best_47 ?_
                  refine r_cv1u hR kv_X7_207 (by decide) (t_X1_become (by decide) (by decide) (by decide) hsN w3) (by first | decide | assumption | (simp only [gcnt_4, gcnt_1, gcnt_2, gcnt_3, gcnt_12, gcnt_13, gcnt_16]; omega)) rfl rfl (Nat.le_of_ble_eq_true rfl) dX7_best_50 ?_
                  refine r_aload0 hR dX7_best_53 ?_
                  refine r_get hR (by first | decide | assumption | (simp only [gcnt_4, gcnt_1, gcnt_2, gcnt_3, gcnt_12, gcnt_13, gcnt_16]; omega)) fl_X7_16 rfl rfl dX7_best_54 ?_
                  refine r_get hR (by first | decide | assumption | (simp only [gcnt_4, gcnt_1, gcnt_2, gcnt_3, gcnt_12, gcnt_13, gcnt_16]; omega)) fl_X7_86 rfl rfl dX7_best_57 ?_
                  refine r_iload1 hR dX7_best_60 ?_
                  refine r_iload3 hR dX7_best_61 ?_
                  refine r_iast hR (by first | decide | assumption | (simp only [gcnt_4, gcnt_1, gcnt_2, gcnt_3, gcnt_12, gcnt_13, gcnt_16]; omega)) (fun _ => rfl) rfl (by omega) (by decide) dX7_best_62 ?_
                  refine r_mem (M2 := putSea N 1 (va_up (aS A) (4 + d) i)) ((putSn_seti_o N 1 (aS A) (aS A 3) (by omega)).trans (by show putSn N 1 _ (aS A 3) = putSn N 1 _ (va_up (aS A) (4 + d) i 3); rw [z3])) ?_
                  refine r_aload0 hR dX7_best_63 ?_
                  refine r_get hR (by first | decide | assumption | (simp only [gcnt_4, gcnt_1, gcnt_2, gcnt_3, gcnt_12, gcnt_13, gcnt_16]; omega)) fl_X7_46 rfl rfl dX7_best_64 ?_
                  refine r_iload3 hR dX7_best_67 ?_
                  refine r_aload0 hR dX7_best_68 ?_
                  refine r_get hR (by first | decide | assumption | (simp only [gcnt_4, gcnt_1, gcnt_2, gcnt_3, gcnt_12, gcnt_13, gcnt_16]; omega)) fl_X7_16 rfl rfl dX7_best_69 ?_
                  refine r_iload2 hR dX7_best_72 ?_
                  refine r_cv1v hR kv_X7_161 (by decide) (t_X1_gainIn (by decide) (putSea_P N 1 (va_up (aS A) (4 + d) i)) (hwS (by omega)) (by omega) (by show (va_up (aS A) (4 + d) i) 0 + n < 20000; omega)) (by first | decide | assumption | (simp only [gcnt_4, gcnt_1, gcnt_2, gcnt_3, gcnt_12, gcnt_13, gcnt_16]; omega)) rfl rfl (Nat.le_of_ble_eq_true rfl) dX7_best_73 ?_
                  refine r_cv2u hR kv_X7_211 (by decide) (t_X0_weigh rfl) (by first | decide | assumption | (simp only [gcnt_4, gcnt_1, gcnt_2, gcnt_3, gcnt_12, gcnt_13, gcnt_16]; omega)) rfl rfl (Nat.le_of_ble_eq_true rfl) dX7_best_76 ?_
                  refine r_iinc3 hR (nI 1) (by decide) (fun _ h => by first | (cases h; rfl) | exact absurd h (by simp)) dX7_best_79 ?_
                  try rw [nI_add]
                  refine r_goto hR 36 dX7_best_82 (by decide) ?_
                  omega
            | succ j ih =>
              intro i N hij hX hp
              have hsN := seaP_eqX hX w3 hc.1
              obtain ⟨x0, x2, x3, x4, xr, xth⟩ := id hsN
              have z0 : va_up (aS A) (4 + d) i 0 = aS A 0 := vu_o (by omega)
              have z3 : va_up (aS A) (4 + d) i 3 = aS A 3 := vu_o (by omega)
              have hwS : i ≤ 8 → wfS (va_up (aS A) (4 + d) i) := fun z => wf_rota hwf (by omega) (by omega)
              refine r_iload3 hR dX7_best_36 ?_
              refine r_bipush hR (nI 8) (by decide) dX7_best_37 ?_
              refine r_icmp_gt hR 85 dX7_best_39 (by decide) (fun c39 => ?_) (fun c39 => ?_)
              · try simp (disch := omega) only [nI_ltI, nI_leI, nI_eq, bI_0, Decidable.not_not, lc_lt, lc_gt, lc_ge, lc_le, lc_eq, i64_toInt] at c39
                try simp (disch := omega) only [cv_lt, cv_le, cv_eq, nI_toInt, cv_0] at c39
                first
                | omega
                | refine r_aload0 hR dX7_best_85 ?_
                  refine r_get hR (by first | decide | assumption | (simp only [gcnt_4, gcnt_1, gcnt_2, gcnt_3, gcnt_12, gcnt_13, gcnt_16]; omega)) fl_X7_46 rfl rfl dX7_best_86 ?_
                  refine r_get hR (by first | decide | assumption | (simp only [gcnt_4, gcnt_1, gcnt_2, gcnt_3, gcnt_12, gcnt_13, gcnt_16]; omega)) fl_X7_215 rfl rfl dX7_best_89 ?_
                  refine r_iret hR dX7_best_92 ?_
                  obtain rfl : i = 8 + 1 := by omega
                  rcases hp with ⟨hz, -⟩ | ⟨k, hk, h70, -⟩
                  · omega
                  · obtain rfl : k = 8 := by omega
                    rw [h70]
                    exact Qc_eqX (A := A) hX w3 hK8 hc e
              · try simp (disch := omega) only [nI_ltI, nI_leI, nI_eq, bI_0, Decidable.not_not, lc_lt, lc_gt, lc_ge, lc_le, lc_eq, i64_toInt] at c39
                try simp (disch := omega) only [cv_lt, cv_le, cv_eq, nI_toInt, cv_0] at c39
                first
                | omega
                | refine r_aload0 hR dX7_best_42 ?_
                  refine r_get hR (by first | decide | assumption | (simp only [gcnt_4, gcnt_1, gcnt_2, gcnt_3, gcnt_12, gcnt_13, gcnt_16]; omega)) fl_X7_16 rfl rfl dX7_best_43 ?_
                  refine r_aload0 hR dX7_best_46 ?_
                  refine r_get hR (by first | decide | assumption | (simp only [gcnt_4, gcnt_1, gcnt_2, gcnt_3, gcnt_12, gcnt_13, gcnt_16]; omega)) fl_X7_10 rfl rfl dX7_best_47 ?_
                  refine r_cv1u hR kv_X7_207 (by decide) (t_X1_become (by decide) (by decide) (by decide) hsN w3) (by first | decide | assumption | (simp only [gcnt_4, gcnt_1, gcnt_2, gcnt_3, gcnt_12, gcnt_13, gcnt_16]; omega)) rfl rfl (Nat.le_of_ble_eq_true rfl) dX7_best_50 ?_
                  refine r_aload0 hR dX7_best_53 ?_
                  refine r_get hR (by first | decide | assumption | (simp only [gcnt_4, gcnt_1, gcnt_2, gcnt_3, gcnt_12, gcnt_13, gcnt_16]; omega)) fl_X7_16 rfl rfl dX7_best_54 ?_
                  refine r_get hR (by first | decide | assumption | (simp only [gcnt_4, gcnt_1, gcnt_2, gcnt_3, gcnt_12, gcnt_13, gcnt_16]; omega)) fl_X7_86 rfl rfl dX7_best_57 ?_
                  refine r_iload1 hR dX7_best_60 ?_
                  refine r_iload3 hR dX7_best_61 ?_
                  refine r_iast hR (by first | decide | assumption | (simp only [gcnt_4, gcnt_1, gcnt_2, gcnt_3, gcnt_12, gcnt_13, gcnt_16]; omega)) (fun _ => rfl) rfl (by omega) (by decide) dX7_best_62 ?_
                  refine r_mem (M2 := putSea N 1 (va_up (aS A) (4 + d) i)) ((putSn_seti_o N 1 (aS A) (aS A 3) (by omega)).trans (by show putSn N 1 _ (aS A 3) = putSn N 1 _ (va_up (aS A) (4 + d) i 3); rw [z3])) ?_
                  refine r_aload0 hR dX7_best_63 ?_
                  refine r_get hR (by first | decide | assumption | (simp only [gcnt_4, gcnt_1, gcnt_2, gcnt_3, gcnt_12, gcnt_13, gcnt_16]; omega)) fl_X7_46 rfl rfl dX7_best_64 ?_
                  refine r_iload3 hR dX7_best_67 ?_
                  refine r_aload0 hR dX7_best_68 ?_
                  refine r_get hR (by first | decide | assumption | (simp only [gcnt_4, gcnt_1, gcnt_2, gcnt_3, gcnt_12, gcnt_13, gcnt_16]; omega)) fl_X7_16 rfl rfl dX7_best_69 ?_
                  refine r_iload2 hR dX7_best_72 ?_
                  refine r_cv1v hR kv_X7_161 (by decide) (t_X1_gainIn (by decide) (putSea_P N 1 (va_up (aS A) (4 + d) i)) (hwS (by omega)) (by omega) (by show (va_up (aS A) (4 + d) i) 0 + n < 20000; omega)) (by first | decide | assumption | (simp only [gcnt_4, gcnt_1, gcnt_2, gcnt_3, gcnt_12, gcnt_13, gcnt_16]; omega)) rfl rfl (Nat.le_of_ble_eq_true rfl) dX7_best_73 ?_
                  refine r_cv2u hR kv_X7_211 (by decide) (t_X0_weigh rfl) (by first | decide | assumption | (simp only [gcnt_4, gcnt_1, gcnt_2, gcnt_3, gcnt_12, gcnt_13, gcnt_16]; omega)) rfl rfl (Nat.le_of_ble_eq_true rfl) dX7_best_76 ?_
                  refine r_iinc3 hR (nI 1) (by decide) (fun _ h => by first | (cases h; rfl) | exact absurd h (by simp)) dX7_best_79 ?_
                  try rw [nI_add]
                  refine r_goto hR 36 dX7_best_82 (by decide) ?_
                  have hpk : pkB (putSea (putSea N 1 (va_up (aS A) (4 + d) i)) 1 (dayN n (va_up (aS A) (4 + d) i))) (fun v => gainN n (va_up (aS A) (4 + d) v)) i := by unfold pkB at hp ⊢; simp only [put_7]; exact hp
                  have hok := pkB_ok (m := 8) (hX.tr ((eqX_put1 N _ (show (va_up (aS A) (4 + d) i) 3 ≤ 8 by omega)).tr (eqX_put1 _ _ (by rw [dayN_3]; omega)))) hpk rfl hfg (by omega)
                  exact ih (i + 1) _ (by omega) hok.1 hok.2
          refine r_aload0 hR dX7_best_25 ?_
          refine r_get hR (by first | decide | assumption | (simp only [gcnt_4, gcnt_1, gcnt_2, gcnt_3, gcnt_12, gcnt_13, gcnt_16]; omega)) fl_X7_46 rfl rfl dX7_best_26 ?_
          try simp only [s0, s2, s3, s4]
          refine r_ldc hR ct_X7_220 dX7_best_29 ?_
          refine r_cv1u hR kv_X7_210 (by decide) (t_X0_begin) (by first | decide | assumption | (simp only [gcnt_4, gcnt_1, gcnt_2, gcnt_3, gcnt_12, gcnt_13, gcnt_16]; omega)) rfl rfl (Nat.le_of_ble_eq_true rfl) dX7_best_31 ?_
          refine r_iconst hR (nI 0) (by decide) dX7_best_34 ?_
          refine r_istore3 hR (fun _ h => by first | (cases h; rfl) | exact absurd h (by simp)) dX7_best_35 ?_
          exact L (8 + 1) 0 _ (by omega) ((eqX_seti M (by unfold scr; omega)).tr (eqX_seti _ (by unfold scr; omega))) (Or.inl ⟨rfl, by simp [seti_r]⟩)
      · try simp (disch := omega) only [nI_ltI, nI_leI, nI_eq, bI_0, Decidable.not_not, lc_lt, lc_gt, lc_ge, lc_le, lc_eq, i64_toInt] at c15
        try simp (disch := omega) only [cv_lt, cv_le, cv_eq, nI_toInt, cv_0] at c15
        first
        | omega
        | refine r_aload0 hR dX7_best_18 ?_
          refine r_ldc hR ct_X7_81 dX7_best_19 ?_
          refine r_cv1v hR kv_X7_82 (by decide) (t_X7_findingC (n := 0) (by decide) (by decide)) (by first | decide | assumption | (simp only [gcnt_4, gcnt_1, gcnt_2, gcnt_3, gcnt_12, gcnt_13, gcnt_16]; omega)) rfl rfl (Nat.le_of_ble_eq_true rfl) dX7_best_21 ?_
          refine r_iret hR dX7_best_24 ?_
          refine Qc_fnd hc (by decide) ?_
          unfold oBest
          dsimp only [okI, okT]
          (repeat' split) <;> first | rfl | omega

