set_option maxHeartbeats 4000000 in
set_option maxRecDepth 100000 in
theorem t_X7_enough {G : gG} {M : gM} {A : gA} {x y : Int32} (hc : clsP M A) (hw : wfA A) : Ct G mX7_enough 6 [.ref (ad G 0 0), .int x, .int y] M (Qc M (oEnough A x y)) := by
  obtain ⟨hwf, hday, hwk, hk2, hl, hT, hsh⟩ := id hw
  obtain ⟨w0, w1, w2, w3, wr, wt⟩ := id hwf
  obtain ⟨s0, s2, s3, s4, sr, sth⟩ := id hc.1
  have hK8 : ak A = 1 → aK A 3 ≤ 8 := fun z => (hwk z).1.2.2.2.1
  refine Ct.of (by decide +kernel) (k := 1) (ls0 := [some (.ref (ad G 0 0)), some (.int x), some (.int y), none]) rfl rfl (fun _ _ => trivial) ?_
  intro P hR
  refine r_iload1 hR dX7_enough_0 ?_
  refine r_bipush hR (nI 30) (by decide) dX7_enough_1 ?_
  refine r_cs2v hR ks_X7_157 (by decide) (t_X7_isSpan) (Nat.le_of_ble_eq_true rfl) dX7_enough_3 ?_
  refine r_if_eq hR 18 dX7_enough_6 (by decide) (fun c6 => ?_) (fun c6 => ?_)
  · try simp (disch := omega) only [nI_ltI, nI_leI, nI_eq, bI_0, Decidable.not_not, lc_lt, lc_gt, lc_ge, lc_le, lc_eq, i64_toInt] at c6
    try simp (disch := omega) only [cv_lt, cv_le, cv_eq, nI_toInt, cv_0] at c6
    first
    | omega
    | refine r_aload0 hR dX7_enough_18 ?_
      refine r_ldc hR ct_X7_81 dX7_enough_19 ?_
      refine r_cv1v hR kv_X7_82 (by decide) (t_X7_findingC (n := 0) (by decide) (by decide)) (by first | decide | assumption | (simp only [gcnt_4, gcnt_1, gcnt_2, gcnt_3, gcnt_12, gcnt_13, gcnt_16]; omega)) rfl rfl (Nat.le_of_ble_eq_true rfl) dX7_enough_21 ?_
      refine r_iret hR dX7_enough_24 ?_
      refine Qc_fnd hc (by decide) ?_
      unfold oEnough
      dsimp only [okI, okT]
      (repeat' split) <;> first | rfl | omega
  · try simp (disch := omega) only [nI_ltI, nI_leI, nI_eq, bI_0, Decidable.not_not, lc_lt, lc_gt, lc_ge, lc_le, lc_eq, i64_toInt] at c6
    try simp (disch := omega) only [cv_lt, cv_le, cv_eq, nI_toInt, cv_0] at c6
    first
    | omega
    | refine r_iload2 hR dX7_enough_9 ?_
      refine r_ldcN hR ct_X7_219 99999 (by decide) dX7_enough_10 ?_
      refine r_cs2v hR ks_X7_77 (by decide) (t_X7_within) (Nat.le_of_ble_eq_true rfl) dX7_enough_12 ?_
      refine r_if_ne hR 25 dX7_enough_15 (by decide) (fun c15 => ?_) (fun c15 => ?_)
      · try simp (disch := omega) only [nI_ltI, nI_leI, nI_eq, bI_0, Decidable.not_not, lc_lt, lc_gt, lc_ge, lc_le, lc_eq, i64_toInt] at c15
        try simp (disch := omega) only [cv_lt, cv_le, cv_eq, nI_toInt, cv_0] at c15
        first
        | omega
        | obtain ⟨n, hn, rfl⟩ := of_in (x := x) (N := 30) (by omega)
          obtain ⟨v, hv, rfl⟩ := of_in (x := y) (N := 99999) (by omega)
          simp (disch := omega) only [nI_toInt] at c6
          have e : oEnough A (nI n) (nI v) = if firstN (fun f => decide (v ≤ gainN n (va_up (aS A) 1 f))) 10 0 = 10 then fnd A 3 else (nI (firstN (fun f => decide (v ≤ gainN n (va_up (aS A) 1 f))) 10 0), A) := by
            unfold oEnough
            rw [if_pos (by simp (disch := omega) only [okI, okT, nI_toInt]; omega)]
            simp (disch := omega) only [uN_nI]
          have L : ∀ (j i : Nat) (N : gM), i + j = 10 → eqX M N → firstN (fun f => decide (v ≤ gainN n (va_up (aS A) 1 f))) j i = firstN (fun f => decide (v ≤ gainN n (va_up (aS A) 1 f))) 10 0 → P 27 [some (.ref (ad G 0 0)), some (.int (nI n)), some (.int (nI v)), some (.int (nI i))] [] N := by
            intro j
            induction j with
            | zero =>
              intro i N hij hX hf
              have hsN := seaP_eqX hX w3 hc.1
              obtain ⟨x0, x2, x3, x4, xr, xth⟩ := id hsN
              have z0 : va_up (aS A) 1 i 0 = aS A 0 := rfl
              have z3 : va_up (aS A) 1 i 3 = aS A 3 := rfl
              have hwS : i ≤ 9 → wfS (va_up (aS A) 1 i) := fun z => wf_force hwf z
              refine r_iload3 hR dX7_enough_27 ?_
              refine r_bipush hR (nI 9) (by decide) dX7_enough_28 ?_
              refine r_icmp_gt hR 72 dX7_enough_30 (by decide) (fun c30 => ?_) (fun c30 => ?_)
              · try simp (disch := omega) only [nI_ltI, nI_leI, nI_eq, bI_0, Decidable.not_not, lc_lt, lc_gt, lc_ge, lc_le, lc_eq, i64_toInt] at c30
                try simp (disch := omega) only [cv_lt, cv_le, cv_eq, nI_toInt, cv_0] at c30
                first
                | omega
                | refine r_aload0 hR dX7_enough_72 ?_
                  refine r_ldc hR ct_X7_108 dX7_enough_73 ?_
                  refine r_cv1v hR kv_X7_82 (by decide) (t_X7_findingC (n := 3) (by decide) (by decide)) (by first | decide | assumption | (simp only [gcnt_4, gcnt_1, gcnt_2, gcnt_3, gcnt_12, gcnt_13, gcnt_16]; omega)) rfl rfl (Nat.le_of_ble_eq_true rfl) dX7_enough_75 ?_
                  refine r_iret hR dX7_enough_78 ?_
                  obtain rfl : i = 10 := by omega
                  refine Qc_fndX (A := A) hX w3 hK8 hc (by decide) ?_
                  rw [e, ← hf]
                  exact if_pos rfl
              · try simp (disch := omega) only [nI_ltI, nI_leI, nI_eq, bI_0, Decidable.not_not, lc_lt, lc_gt, lc_ge, lc_le, lc_eq, i64_toInt] at c30
                try simp (disch := omega) only [cv_lt, cv_le, cv_eq, nI_toInt, cv_0] at c30
                first
                | omega
                | refine r_aload0 hR dX7_enough_33 ?_
                  refine r_get hR (by first | decide | assumption | (simp only [gcnt_4, gcnt_1, gcnt_2, gcnt_3, gcnt_12, gcnt_13, gcnt_16]; omega)) fl_X7_16 rfl rfl dX7_enough_34 ?_
                  refine r_aload0 hR dX7_enough_37 ?_
                  refine r_get hR (by first | decide | assumption | (simp only [gcnt_4, gcnt_1, gcnt_2, gcnt_3, gcnt_12, gcnt_13, gcnt_16]; omega)) fl_X7_10 rfl rfl dX7_enough_38 ?_
                  refine r_cv1u hR kv_X7_207 (by decide) (t_X1_become (by decide) (by decide) (by decide) hsN w3) (by first | decide | assumption | (simp only [gcnt_4, gcnt_1, gcnt_2, gcnt_3, gcnt_12, gcnt_13, gcnt_16]; omega)) rfl rfl (Nat.le_of_ble_eq_true rfl) dX7_enough_41 ?_
                  refine r_aload0 hR dX7_enough_44 ?_
                  refine r_get hR (by first | decide | assumption | (simp only [gcnt_4, gcnt_1, gcnt_2, gcnt_3, gcnt_12, gcnt_13, gcnt_16]; omega)) fl_X7_16 rfl rfl dX7_enough_45 ?_
                  refine r_iload3 hR dX7_enough_48 ?_
                  refine r_puti hR (by first | decide | assumption | (simp only [gcnt_4, gcnt_1, gcnt_2, gcnt_3, gcnt_12, gcnt_13, gcnt_16]; omega)) fp_X7_97 rfl rfl (Nat.le_of_ble_eq_true rfl) rfl rfl dX7_enough_49 ?_
                  refine r_mem (M2 := putSea N 1 (va_up (aS A) 1 i)) (putSn_seti_f N 1 (aS A) (aS A 3) i) ?_
                  refine r_aload0 hR dX7_enough_52 ?_
                  refine r_get hR (by first | decide | assumption | (simp only [gcnt_4, gcnt_1, gcnt_2, gcnt_3, gcnt_12, gcnt_13, gcnt_16]; omega)) fl_X7_16 rfl rfl dX7_enough_53 ?_
                  refine r_iload1 hR dX7_enough_56 ?_
                  refine r_cv1v hR kv_X7_161 (by decide) (t_X1_gainIn (by decide) (putSea_P N 1 (va_up (aS A) 1 i)) (hwS (by omega)) (by omega) (by show (va_up (aS A) 1 i) 0 + n < 20000; omega)) (by first | decide | assumption | (simp only [gcnt_4, gcnt_1, gcnt_2, gcnt_3, gcnt_12, gcnt_13, gcnt_16]; omega)) rfl rfl (Nat.le_of_ble_eq_true rfl) dX7_enough_57 ?_
                  have hg := sumsN_le (wf_dayN (n := n) (hwS (by omega)) (by omega))
                  refine r_iload2 hR dX7_enough_60 ?_
                  refine r_icmp_lt hR 66 dX7_enough_61 (by decide) (fun c61 => ?_) (fun c61 => ?_)
                  · try simp (disch := omega) only [nI_ltI, nI_leI, nI_eq, bI_0, Decidable.not_not, lc_lt, lc_gt, lc_ge, lc_le, lc_eq, i64_toInt] at c61
                    try simp (disch := omega) only [cv_lt, cv_le, cv_eq, nI_toInt, cv_0] at c61
                    first
                    | omega
                    | refine r_iinc3 hR (nI 1) (by decide) (fun _ h => by first | (cases h; rfl) | exact absurd h (by simp)) dX7_enough_66 ?_
                      try rw [nI_add]
                      refine r_goto hR 27 dX7_enough_69 (by decide) ?_
                      omega
                  · try simp (disch := omega) only [nI_ltI, nI_leI, nI_eq, bI_0, Decidable.not_not, lc_lt, lc_gt, lc_ge, lc_le, lc_eq, i64_toInt] at c61
                    try simp (disch := omega) only [cv_lt, cv_le, cv_eq, nI_toInt, cv_0] at c61
                    first
                    | omega
                    | refine r_iload3 hR dX7_enough_64 ?_
                      refine r_iret hR dX7_enough_65 ?_
                      omega
            | succ j ih =>
              intro i N hij hX hf
              have hsN := seaP_eqX hX w3 hc.1
              obtain ⟨x0, x2, x3, x4, xr, xth⟩ := id hsN
              have z0 : va_up (aS A) 1 i 0 = aS A 0 := rfl
              have z3 : va_up (aS A) 1 i 3 = aS A 3 := rfl
              have hwS : i ≤ 9 → wfS (va_up (aS A) 1 i) := fun z => wf_force hwf z
              refine r_iload3 hR dX7_enough_27 ?_
              refine r_bipush hR (nI 9) (by decide) dX7_enough_28 ?_
              refine r_icmp_gt hR 72 dX7_enough_30 (by decide) (fun c30 => ?_) (fun c30 => ?_)
              · try simp (disch := omega) only [nI_ltI, nI_leI, nI_eq, bI_0, Decidable.not_not, lc_lt, lc_gt, lc_ge, lc_le, lc_eq, i64_toInt] at c30
                try simp (disch := omega) only [cv_lt, cv_le, cv_eq, nI_toInt, cv_0] at c30
                first
                | omega
                | refine r_aload0 hR dX7_enough_72 ?_
                  refine r_ldc hR ct_X7_108 dX7_enough_73 ?_
                  refine r_cv1v hR kv_X7_82 (by decide) (t_X7_findingC (n := 3) (by decide) (by decide)) (by first | decide | assumption | (simp only [gcnt_4, gcnt_1, gcnt_2, gcnt_3, gcnt_12, gcnt_13, gcnt_16]; omega)) rfl rfl (Nat.le_of_ble_eq_true rfl) dX7_enough_75 ?_
                  refine r_iret hR dX7_enough_78 ?_
                  omega
              · try simp (disch := omega) only [nI_ltI, nI_leI, nI_eq, bI_0, Decidable.not_not, lc_lt, lc_gt, lc_ge, lc_le, lc_eq, i64_toInt] at c30
                try simp (disch := omega) only [cv_lt, cv_le, cv_eq, nI_toInt, cv_0] at c30
                first
                | omega
                | refine r_aload0 hR dX7_enough_33 ?_
                  refine r_get hR (by first | decide | assumption | (simp only [gcnt_4, gcnt_1, gcnt_2, gcnt_3, gcnt_12, gcnt_13, gcnt_16]; omega)) fl_X7_16 rfl rfl dX7_enough_34 ?_
                  refine r_aload0 hR dX7_enough_37 ?_
                  refine r_get hR (by first | decide | assumption | (simp only [gcnt_4, gcnt_1, gcnt_2, gcnt_3, gcnt_12, gcnt_13, gcnt_16]; omega)) fl_X7_10 rfl rfl dX7_enough_38 ?_
                  refine r_cv1u hR kv_X7_207 (by decide) (t_X1_become (by decide) (by decide) (by decide) hsN w3) (by first | decide | assumption | (simp only [gcnt_4, gcnt_1, gcnt_2, gcnt_3, gcnt_12, gcnt_13, gcnt_16]; omega)) rfl rfl (Nat.le_of_ble_eq_true rfl) dX7_enough_41 ?_
                  refine r_aload0 hR dX7_enough_44 ?_
                  refine r_get hR (by first | decide | assumption | (simp only [gcnt_4, gcnt_1, gcnt_2, gcnt_3, gcnt_12, gcnt_13, gcnt_16]; omega)) fl_X7_16 rfl rfl dX7_enough_45 ?_
                  refine r_iload3 hR dX7_enough_48 ?_
                  refine r_puti hR (by first | decide | assumption | (simp only [gcnt_4, gcnt_1, gcnt_2, gcnt_3, gcnt_12, gcnt_13, gcnt_16]; omega)) fp_X7_97 rfl rfl (Nat.le_of_ble_eq_true rfl) rfl rfl dX7_enough_49 ?_
                  refine r_mem (M2 := putSea N 1 (va_up (aS A) 1 i)) (putSn_seti_f N 1 (aS A) (aS A 3) i) ?_
                  refine r_aload0 hR dX7_enough_52 ?_
                  refine r_get hR (by first | decide | assumption | (simp only [gcnt_4, gcnt_1, gcnt_2, gcnt_3, gcnt_12, gcnt_13, gcnt_16]; omega)) fl_X7_16 rfl rfl dX7_enough_53 ?_
                  refine r_iload1 hR dX7_enough_56 ?_
                  refine r_cv1v hR kv_X7_161 (by decide) (t_X1_gainIn (by decide) (putSea_P N 1 (va_up (aS A) 1 i)) (hwS (by omega)) (by omega) (by show (va_up (aS A) 1 i) 0 + n < 20000; omega)) (by first | decide | assumption | (simp only [gcnt_4, gcnt_1, gcnt_2, gcnt_3, gcnt_12, gcnt_13, gcnt_16]; omega)) rfl rfl (Nat.le_of_ble_eq_true rfl) dX7_enough_57 ?_
                  have hg := sumsN_le (wf_dayN (n := n) (hwS (by omega)) (by omega))
                  refine r_iload2 hR dX7_enough_60 ?_
                  refine r_icmp_lt hR 66 dX7_enough_61 (by decide) (fun c61 => ?_) (fun c61 => ?_)
                  · try simp (disch := omega) only [nI_ltI, nI_leI, nI_eq, bI_0, Decidable.not_not, lc_lt, lc_gt, lc_ge, lc_le, lc_eq, i64_toInt] at c61
                    try simp (disch := omega) only [cv_lt, cv_le, cv_eq, nI_toInt, cv_0] at c61
                    first
                    | omega
                    | refine r_iinc3 hR (nI 1) (by decide) (fun _ h => by first | (cases h; rfl) | exact absurd h (by simp)) dX7_enough_66 ?_
                      try rw [nI_add]
                      refine r_goto hR 27 dX7_enough_69 (by decide) ?_
                      have ef : firstN (fun f => decide (v ≤ gainN n (va_up (aS A) 1 f))) (j + 1) i = firstN (fun f => decide (v ≤ gainN n (va_up (aS A) 1 f))) j (i + 1) := by
                        conv => lhs; unfold firstN
                        rw [if_neg (by simp only [decide_eq_true_eq]; unfold gainN; omega)]
                      exact ih (i + 1) _ (by omega) (hX.tr ((eqX_put1 N _ (show (va_up (aS A) 1 i) 3 ≤ 8 by omega)).tr (eqX_put1 _ _ (by rw [dayN_3]; omega)))) (by rw [← ef]; exact hf)
                  · try simp (disch := omega) only [nI_ltI, nI_leI, nI_eq, bI_0, Decidable.not_not, lc_lt, lc_gt, lc_ge, lc_le, lc_eq, i64_toInt] at c61
                    try simp (disch := omega) only [cv_lt, cv_le, cv_eq, nI_toInt, cv_0] at c61
                    first
                    | omega
                    | refine r_iload3 hR dX7_enough_64 ?_
                      refine r_iret hR dX7_enough_65 ?_
                      have ef : firstN (fun f => decide (v ≤ gainN n (va_up (aS A) 1 f))) (j + 1) i = i := by
                        unfold firstN
                        rw [if_pos (by simp only [decide_eq_true_eq]; unfold gainN; omega)]
                      refine Qc_eqX (A := A) (hX.tr ((eqX_put1 N _ (show (va_up (aS A) 1 i) 3 ≤ 8 by omega)).tr (eqX_put1 _ _ (by rw [dayN_3]; omega)))) w3 hK8 hc ?_
                      rw [e, ← hf, ef, if_neg (by omega)]
          refine r_iconst hR (nI 0) (by decide) dX7_enough_25 ?_
          refine r_istore3 hR (fun _ h => by first | (cases h; rfl) | exact absurd h (by simp)) dX7_enough_26 ?_
          exact L 10 0 M rfl (eqX.rf M) rfl
      · try simp (disch := omega) only [nI_ltI, nI_leI, nI_eq, bI_0, Decidable.not_not, lc_lt, lc_gt, lc_ge, lc_le, lc_eq, i64_toInt] at c15
        try simp (disch := omega) only [cv_lt, cv_le, cv_eq, nI_toInt, cv_0] at c15
        first
        | omega
        | refine r_aload0 hR dX7_enough_18 ?_
          refine r_ldc hR ct_X7_81 dX7_enough_19 ?_
          refine r_cv1v hR kv_X7_82 (by decide) (t_X7_findingC (n := 0) (by decide) (by decide)) (by first | decide | assumption | (simp only [gcnt_4, gcnt_1, gcnt_2, gcnt_3, gcnt_12, gcnt_13, gcnt_16]; omega)) rfl rfl (Nat.le_of_ble_eq_true rfl) dX7_enough_21 ?_
          refine r_iret hR dX7_enough_24 ?_
          refine Qc_fnd hc (by decide) ?_
          unfold oEnough
          dsimp only [okI, okT]
          (repeat' split) <;> first | rfl | omega

set_option maxHeartbeats 4000000 in
set_option maxRecDepth 100000 in
theorem t_X7_kind {G : gG} {M : gM} {A : gA} {x y : Int32} (hc : clsP M A) (hw : wfA A) : Ct G mX7_kind 6 [.ref (ad G 0 0), .int x, .int y] M (Qc M (oKind A x y)) := by
  obtain ⟨hwf, hday, hwk, hk2, hl, hT, hsh⟩ := id hw
  obtain ⟨w0, w1, w2, w3, wr, wt⟩ := id hwf
  obtain ⟨s0, s2, s3, s4, sr, sth⟩ := id hc.1
  have hK8 : ak A = 1 → aK A 3 ≤ 8 := fun z => (hwk z).1.2.2.2.1
  refine Ct.of (by decide +kernel) (k := 1) (ls0 := [some (.ref (ad G 0 0)), some (.int x), some (.int y), none]) rfl rfl (fun _ _ => trivial) ?_
  intro P hR
  refine r_aload0 hR dX7_kind_0 ?_
  refine r_get hR (by first | decide | assumption | (simp only [gcnt_4, gcnt_1, gcnt_2, gcnt_3, gcnt_12, gcnt_13, gcnt_16]; omega)) fl_X7_10 rfl rfl dX7_kind_1 ?_
  try simp only [s0, s2, s3, s4]
  refine r_iload1 hR dX7_kind_4 ?_
  refine r_cv1v hR kv_X7_121 (by decide) (t_X1_has (by decide) hc.1 w3) (by first | decide | assumption | (simp only [gcnt_4, gcnt_1, gcnt_2, gcnt_3, gcnt_12, gcnt_13, gcnt_16]; omega)) rfl rfl (Nat.le_of_ble_eq_true rfl) dX7_kind_5 ?_
  refine r_if_eq hR 20 dX7_kind_8 (by decide) (fun c8 => ?_) (fun c8 => ?_)
  · try simp (disch := omega) only [nI_ltI, nI_leI, nI_eq, bI_0, Decidable.not_not, lc_lt, lc_gt, lc_ge, lc_le, lc_eq, i64_toInt] at c8
    try simp (disch := omega) only [cv_lt, cv_le, cv_eq, nI_toInt, cv_0] at c8
    first
    | omega
    | refine r_aload0 hR dX7_kind_20 ?_
      refine r_ldc hR ct_X7_81 dX7_kind_21 ?_
      refine r_cv1v hR kv_X7_82 (by decide) (t_X7_findingC (n := 0) (by decide) (by decide)) (by first | decide | assumption | (simp only [gcnt_4, gcnt_1, gcnt_2, gcnt_3, gcnt_12, gcnt_13, gcnt_16]; omega)) rfl rfl (Nat.le_of_ble_eq_true rfl) dX7_kind_23 ?_
      refine r_iret hR dX7_kind_26 ?_
      refine Qc_fnd hc (by decide) ?_
      unfold oKind
      dsimp only [okI, okT]
      (repeat' split) <;> first | rfl | omega
  · try simp (disch := omega) only [nI_ltI, nI_leI, nI_eq, bI_0, Decidable.not_not, lc_lt, lc_gt, lc_ge, lc_le, lc_eq, i64_toInt] at c8
    try simp (disch := omega) only [cv_lt, cv_le, cv_eq, nI_toInt, cv_0] at c8
    first
    | omega
    | refine r_iload2 hR dX7_kind_11 ?_
      refine r_bipush hR (nI 30) (by decide) dX7_kind_12 ?_
      refine r_cs2v hR ks_X7_157 (by decide) (t_X7_isSpan) (Nat.le_of_ble_eq_true rfl) dX7_kind_14 ?_
      refine r_if_ne hR 27 dX7_kind_17 (by decide) (fun c17 => ?_) (fun c17 => ?_)
      · try simp (disch := omega) only [nI_ltI, nI_leI, nI_eq, bI_0, Decidable.not_not, lc_lt, lc_gt, lc_ge, lc_le, lc_eq, i64_toInt] at c17
        try simp (disch := omega) only [cv_lt, cv_le, cv_eq, nI_toInt, cv_0] at c17
        first
        | omega
        | obtain ⟨n, hn, rfl⟩ := of_in (x := y) (N := 30) (by omega)
          simp (disch := omega) only [nI_toInt] at c17
          obtain ⟨t, ht0, rfl⟩ := of_in (x := x) (N := aS A 3 - 1) (by omega)
          have htt : t < aS A 3 := by rw [nI_toInt (by omega)] at c8; omega
          have e : oKind A (nI t) (nI n) = (nI (bstAt (aS A) (11 + 4 * t) 5 n), A) := by
            unfold oKind
            rw [if_pos (by simp (disch := omega) only [okI, okT, nI_toInt]; omega)]
            simp (disch := omega) only [uN_nI]
          have hfg : ∀ v, v ≤ 5 → (fun v => gainN n (va_up (aS A) (11 + 4 * t) v)) v ≤ 99999 * 8 := fun i z => gain_le (wf_th (w := 0) hwf htt (by decide) ⟨fun _ => by omega, fun h => absurd h (by decide), fun h => absurd h (by decide), fun h => absurd h (by decide)⟩) (by show va_up (aS A) (11 + 4 * t) i 0 + n < 20000; rw [vu_o (by omega)]; omega)
          have L : ∀ (j i : Nat) (N : gM), i + j = 5 + 1 → eqX M N → pkB N (fun v => gainN n (va_up (aS A) (11 + 4 * t) v)) i → P 38 [some (.ref (ad G 0 0)), some (.int (nI t)), some (.int (nI n)), some (.int (nI i))] [] N := by
            intro j
            induction j with
            | zero =>
              intro i N hij hX hp
              have hsN := seaP_eqX hX w3 hc.1
              obtain ⟨x0, x2, x3, x4, xr, xth⟩ := id hsN
              have z0 : va_up (aS A) (11 + 4 * t) i 0 = aS A 0 := vu_o (by omega)
              have z3 : va_up (aS A) (11 + 4 * t) i 3 = aS A 3 := vu_o (by omega)
              have hwS : i ≤ 5 → wfS (va_up (aS A) (11 + 4 * t) i) := fun z => wf_th (w := 0) hwf htt (by decide) ⟨fun _ => by omega, fun h => absurd h (by decide), fun h => absurd h (by decide), fun h => absurd h (by decide)⟩
              refine r_iload3 hR dX7_kind_38 ?_
              refine r_bipush hR (nI 6) (by decide) dX7_kind_39 ?_
              refine r_icmp_ge hR 90 dX7_kind_41 (by decide) (fun c41 => ?_) (fun c41 => ?_)
              · try simp (disch := omega) only [nI_ltI, nI_leI, nI_eq, bI_0, Decidable.not_not, lc_lt, lc_gt, lc_ge, lc_le, lc_eq, i64_toInt] at c41
                try simp (disch := omega) only [cv_lt, cv_le, cv_eq, nI_toInt, cv_0] at c41
                first
                | omega
                | refine r_aload0 hR dX7_kind_90 ?_
                  refine r_get hR (by first | decide | assumption | (simp only [gcnt_4, gcnt_1, gcnt_2, gcnt_3, gcnt_12, gcnt_13, gcnt_16]; omega)) fl_X7_46 rfl rfl dX7_kind_91 ?_
                  refine r_get hR (by first | decide | assumption | (simp only [gcnt_4, gcnt_1, gcnt_2, gcnt_3, gcnt_12, gcnt_13, gcnt_16]; omega)) fl_X7_215 rfl rfl dX7_kind_94 ?_
                  refine r_iret hR dX7_kind_97 ?_
                  obtain rfl : i = 5 + 1 := by omega
                  rcases hp with ⟨hz, -⟩ | ⟨k, hk, h70, -⟩
                  · omega
                  · obtain rfl : k = 5 := by omega
                    rw [h70]
                    exact Qc_eqX (A := A) hX w3 hK8 hc e
              · try simp (disch := omega) only [nI_ltI, nI_leI, nI_eq, bI_0, Decidable.not_not, lc_lt, lc_gt, lc_ge, lc_le, lc_eq, i64_toInt] at c41
                try simp (disch := omega) only [cv_lt, cv_le, cv_eq, nI_toInt, cv_0] at c41
                first
                | omega
                | refine r_aload0 hR dX7_kind_44 ?_
                  refine r_get hR (by first | decide | assumption | (simp only [gcnt_4, gcnt_1, gcnt_2, gcnt_3, gcnt_12, gcnt_13, gcnt_16]; omega)) fl_X7_16 rfl rfl dX7_kind_45 ?_
                  refine r_aload0 hR dX7_kind_48 ?_
                  refine r_get hR (by first | decide | assumption | (simp only [gcnt_4, gcnt_1, gcnt_2, gcnt_3, gcnt_12, gcnt_13, gcnt_16]; omega)) fl_X7_10 rfl rfl dX7_kind_49 ?_
                  refine r_cv1u hR kv_X7_207 (by decide) (t_X1_become (by decide) (by decide) (by decide) hsN w3) (by first | decide | assumption | (simp only [gcnt_4, gcnt_1, gcnt_2, gcnt_3, gcnt_12, gcnt_13, gcnt_16]; omega)) rfl rfl (Nat.le_of_ble_eq_true rfl) dX7_kind_52 ?_
                  refine r_aload0 hR dX7_kind_55 ?_
                  refine r_get hR (by first | decide | assumption | (simp only [gcnt_4, gcnt_1, gcnt_2, gcnt_3, gcnt_12, gcnt_13, gcnt_16]; omega)) fl_X7_16 rfl rfl dX7_kind_56 ?_
                  refine r_get hR (by first | decide | assumption | (simp only [gcnt_4, gcnt_1, gcnt_2, gcnt_3, gcnt_12, gcnt_13, gcnt_16]; omega)) fl_X7_124 rfl rfl dX7_kind_59 ?_
                  refine r_iload1 hR dX7_kind_62 ?_
                  refine r_aald hR (t0 := 3) (by first | decide | assumption | (simp only [gcnt_4, gcnt_1, gcnt_2, gcnt_3, gcnt_12, gcnt_13, gcnt_16]; omega)) rfl rfl rfl (by omega) (by decide) rfl dX7_kind_63 ?_
                  refine r_iload3 hR dX7_kind_64 ?_
                  refine r_puti hR (by first | decide | assumption | (simp only [gcnt_4, gcnt_1, gcnt_2, gcnt_3, gcnt_12, gcnt_13, gcnt_16]; omega)) fp_X7_131 rfl rfl (Nat.le_of_ble_eq_true rfl) rfl rfl dX7_kind_65 ?_
                  refine r_mem (M2 := putSea N 1 (va_up (aS A) (11 + 4 * t) i)) ((putSn_seti_t N 1 (aS A) (n := aS A 3) (w := 0) (by omega) (by decide)).trans (by rw [Nat.add_zero]; show putSn N 1 _ (aS A 3) = putSn N 1 _ (va_up (aS A) (11 + 4 * t) i 3); rw [z3])) ?_
                  refine r_aload0 hR dX7_kind_68 ?_
                  refine r_get hR (by first | decide | assumption | (simp only [gcnt_4, gcnt_1, gcnt_2, gcnt_3, gcnt_12, gcnt_13, gcnt_16]; omega)) fl_X7_46 rfl rfl dX7_kind_69 ?_
                  refine r_iload3 hR dX7_kind_72 ?_
                  refine r_aload0 hR dX7_kind_73 ?_
                  refine r_get hR (by first | decide | assumption | (simp only [gcnt_4, gcnt_1, gcnt_2, gcnt_3, gcnt_12, gcnt_13, gcnt_16]; omega)) fl_X7_16 rfl rfl dX7_kind_74 ?_
                  refine r_iload2 hR dX7_kind_77 ?_
                  refine r_cv1v hR kv_X7_161 (by decide) (t_X1_gainIn (by decide) (putSea_P N 1 (va_up (aS A) (11 + 4 * t) i)) (hwS (by omega)) (by omega) (by show (va_up (aS A) (11 + 4 * t) i) 0 + n < 20000; omega)) (by first | decide | assumption | (simp only [gcnt_4, gcnt_1, gcnt_2, gcnt_3, gcnt_12, gcnt_13, gcnt_16]; omega)) rfl rfl (Nat.le_of_ble_eq_true rfl) dX7_kind_78 ?_
                  refine r_cv2u hR kv_X7_211 (by decide) (t_X0_weigh rfl) (by first | decide | assumption | (simp only [gcnt_4, gcnt_1, gcnt_2, gcnt_3, gcnt_12, gcnt_13, gcnt_16]; omega)) rfl rfl (Nat.le_of_ble_eq_true rfl) dX7_kind_81 ?_
                  refine r_iinc3 hR (nI 1) (by decide) (fun _ h => by first | (cases h; rfl) | exact absurd h (by simp)) dX7_kind_84 ?_
                  try rw [nI_add]
                  refine r_goto hR 38 dX7_kind_87 (by decide) ?_
                  omega
            | succ j ih =>
              intro i N hij hX hp
              have hsN := seaP_eqX hX w3 hc.1
              obtain ⟨x0, x2, x3, x4, xr, xth⟩ := id hsN
              have z0 : va_up (aS A) (11 + 4 * t) i 0 = aS A 0 := vu_o (by omega)
              have z3 : va_up (aS A) (11 + 4 * t) i 3 = aS A 3 := vu_o (by omega)
              have hwS : i ≤ 5 → wfS (va_up (aS A) (11 + 4 * t) i) := fun z => wf_th (w := 0) hwf htt (by decide) ⟨fun _ => by omega, fun h => absurd h (by decide), fun h => absurd h (by decide), fun h => absurd h (by decide)⟩
              refine r_iload3 hR dX7_kind_38 ?_
              refine r_bipush hR (nI 6) (by decide) dX7_kind_39 ?_
              refine r_icmp_ge hR 90 dX7_kind_41 (by decide) (fun c41 => ?_) (fun c41 => ?_)
              · try simp (disch := omega) only [nI_ltI, nI_leI, nI_eq, bI_0, Decidable.not_not, lc_lt, lc_gt, lc_ge, lc_le, lc_eq, i64_toInt] at c41
                try simp (disch := omega) only [cv_lt, cv_le, cv_eq, nI_toInt, cv_0] at c41
                first
                | omega
                | refine r_aload0 hR dX7_kind_90 ?_
                  refine r_get hR (by first | decide | assumption | (simp only [gcnt_4, gcnt_1, gcnt_2, gcnt_3, gcnt_12, gcnt_13, gcnt_16]; omega)) fl_X7_46 rfl rfl dX7_kind_91 ?_
                  refine r_get hR (by first | decide | assumption | (simp only [gcnt_4, gcnt_1, gcnt_2, gcnt_3, gcnt_12, gcnt_13, gcnt_16]; omega)) fl_X7_215 rfl rfl dX7_kind_94 ?_
                  refine r_iret hR dX7_kind_97 ?_
                  obtain rfl : i = 5 + 1 := by omega
                  rcases hp with ⟨hz, -⟩ | ⟨k, hk, h70, -⟩
                  · omega
                  · obtain rfl : k = 5 := by omega
                    rw [h70]
                    exact Qc_eqX (A := A) hX w3 hK8 hc e
              · try simp (disch := omega) only [nI_ltI, nI_leI, nI_eq, bI_0, Decidable.not_not, lc_lt, lc_gt, lc_ge, lc_le, lc_eq, i64_toInt] at c41
                try simp (disch := omega) only [cv_lt, cv_le, cv_eq, nI_toInt, cv_0] at c41
                first
                | omega
                | refine r_aload0 hR dX7_kind_44 ?_
                  refine r_get hR (by first | decide | assumption | (simp only [gcnt_4, gcnt_1, gcnt_2, gcnt_3, gcnt_12, gcnt_13, gcnt_16]; omega)) fl_X7_16 rfl rfl dX7_kind_45 ?_
                  refine r_aload0 hR dX7_kind_48 ?_
                  refine r_get hR (by first | decide | assumption | (simp only [gcnt_4, gcnt_1, gcnt_2, gcnt_3, gcnt_12, gcnt_13, gcnt_16]; omega)) fl_X7_10 rfl rfl dX7_kind_49 ?_
                  refine r_cv1u hR kv_X7_207 (by decide) (t_X1_become (by decide) (by decide) (by decide) hsN w3) (by first | decide | assumption | (simp only [gcnt_4, gcnt_1, gcnt_2, gcnt_3, gcnt_12, gcnt_13, gcnt_16]; omega)) rfl rfl (Nat.le_of_ble_eq_true rfl) dX7_kind_52 ?_
                  refine r_aload0 hR dX7_kind_55 ?_
                  refine r_get hR (by first | decide | assumption | (simp only [gcnt_4, gcnt_1, gcnt_2, gcnt_3, gcnt_12, gcnt_13, gcnt_16]; omega)) fl_X7_16 rfl rfl dX7_kind_56 ?_
                  refine r_get hR (by first | decide | assumption | (simp only [gcnt_4, gcnt_1, gcnt_2, gcnt_3, gcnt_12, gcnt_13, gcnt_16]; omega)) fl_X7_124 rfl rfl dX7_kind_59 ?_
                  refine r_iload1 hR dX7_kind_62 ?_
                  refine r_aald hR (t0 := 3) (by first | decide | assumption | (simp only [gcnt_4, gcnt_1, gcnt_2, gcnt_3, gcnt_12, gcnt_13, gcnt_16]; omega)) rfl rfl rfl (by omega) (by decide) rfl dX7_kind_63 ?_
                  refine r_iload3 hR dX7_kind_64 ?_
                  refine r_puti hR (by first | decide | assumption | (simp only [gcnt_4, gcnt_1, gcnt_2, gcnt_3, gcnt_12, gcnt_13, gcnt_16]; omega)) fp_X7_131 rfl rfl (Nat.le_of_ble_eq_true rfl) rfl rfl dX7_kind_65 ?_
                  refine r_mem (M2 := putSea N 1 (va_up (aS A) (11 + 4 * t) i)) ((putSn_seti_t N 1 (aS A) (n := aS A 3) (w := 0) (by omega) (by decide)).trans (by rw [Nat.add_zero]; show putSn N 1 _ (aS A 3) = putSn N 1 _ (va_up (aS A) (11 + 4 * t) i 3); rw [z3])) ?_
                  refine r_aload0 hR dX7_kind_68 ?_
                  refine r_get hR (by first | decide | assumption | (simp only [gcnt_4, gcnt_1, gcnt_2, gcnt_3, gcnt_12, gcnt_13, gcnt_16]; omega)) fl_X7_46 rfl rfl dX7_kind_69 ?_
                  refine r_iload3 hR dX7_kind_72 ?_
                  refine r_aload0 hR dX7_kind_73 ?_
                  refine r_get hR (by first | decide | assumption | (simp only [gcnt_4, gcnt_1, gcnt_2, gcnt_3, gcnt_12, gcnt_13, gcnt_16]; omega)) fl_X7_16 rfl rfl dX7_kind_74 ?_
                  refine r_iload2 hR dX7_kind_77 ?_
                  refine r_cv1v hR kv_X7_161 (by decide) (t_X1_gainIn (by decide) (putSea_P N 1 (va_up (aS A) (11 + 4 * t) i)) (hwS (by omega)) (by omega) (by show (va_up (aS A) (11 + 4 * t) i) 0 + n < 20000; omega)) (by first | decide | assumption | (simp only [gcnt_4, gcnt_1, gcnt_2, gcnt_3, gcnt_12, gcnt_13, gcnt_16]; omega)) rfl rfl (Nat.le_of_ble_eq_true rfl) dX7_kind_78 ?_
                  refine r_cv2u hR kv_X7_211 (by decide) (t_X0_weigh rfl) (by first | decide | assumption | (simp only [gcnt_4, gcnt_1, gcnt_2, gcnt_3, gcnt_12, gcnt_13, gcnt_16]; omega)) rfl rfl (Nat.le_of_ble_eq_true rfl) dX7_kind_81 ?_
                  refine r_iinc3 hR (nI 1) (by decide) (fun _ h => by first | (cases h; rfl) | exact absurd h (by simp)) dX7_kind_84 ?_
                  try rw [nI_add]
                  refine r_goto hR 38 dX7_kind_87 (by decide) ?_
                  have hpk : pkB (putSea (putSea N 1 (va_up (aS A) (11 + 4 * t) i)) 1 (dayN n (va_up (aS A) (11 + 4 * t) i))) (fun v => gainN n (va_up (aS A) (11 + 4 * t) v)) i := by unfold pkB at hp ⊢; simp only [put_7]; exact hp
                  have hok := pkB_ok (m := 5) (hX.tr ((eqX_put1 N _ (show (va_up (aS A) (11 + 4 * t) i) 3 ≤ 8 by omega)).tr (eqX_put1 _ _ (by rw [dayN_3]; omega)))) hpk rfl hfg (by omega)
                  exact ih (i + 1) _ (by omega) hok.1 hok.2
          refine r_aload0 hR dX7_kind_27 ?_
          refine r_get hR (by first | decide | assumption | (simp only [gcnt_4, gcnt_1, gcnt_2, gcnt_3, gcnt_12, gcnt_13, gcnt_16]; omega)) fl_X7_46 rfl rfl dX7_kind_28 ?_
          try simp only [s0, s2, s3, s4]
          refine r_ldc hR ct_X7_218 dX7_kind_31 ?_
          refine r_cv1u hR kv_X7_210 (by decide) (t_X0_begin) (by first | decide | assumption | (simp only [gcnt_4, gcnt_1, gcnt_2, gcnt_3, gcnt_12, gcnt_13, gcnt_16]; omega)) rfl rfl (Nat.le_of_ble_eq_true rfl) dX7_kind_33 ?_
          refine r_iconst hR (nI 0) (by decide) dX7_kind_36 ?_
          refine r_istore3 hR (fun _ h => by first | (cases h; rfl) | exact absurd h (by simp)) dX7_kind_37 ?_
          exact L (5 + 1) 0 _ (by omega) ((eqX_seti M (by unfold scr; omega)).tr (eqX_seti _ (by unfold scr; omega))) (Or.inl ⟨rfl, by simp [seti_r]⟩)
      · try simp (disch := omega) only [nI_ltI, nI_leI, nI_eq, bI_0, Decidable.not_not, lc_lt, lc_gt, lc_ge, lc_le, lc_eq, i64_toInt] at c17
        try simp (disch := omega) only [cv_lt, cv_le, cv_eq, nI_toInt, cv_0] at c17
        first
        | omega
        | refine r_aload0 hR dX7_kind_20 ?_
          refine r_ldc hR ct_X7_81 dX7_kind_21 ?_
          refine r_cv1v hR kv_X7_82 (by decide) (t_X7_findingC (n := 0) (by decide) (by decide)) (by first | decide | assumption | (simp only [gcnt_4, gcnt_1, gcnt_2, gcnt_3, gcnt_12, gcnt_13, gcnt_16]; omega)) rfl rfl (Nat.le_of_ble_eq_true rfl) dX7_kind_23 ?_
          refine r_iret hR dX7_kind_26 ?_
          refine Qc_fnd hc (by decide) ?_
          unfold oKind
          dsimp only [okI, okT]
          (repeat' split) <;> first | rfl | omega

set_option maxHeartbeats 4000000 in
set_option maxRecDepth 100000 in
theorem t_X7_facing {G : gG} {M : gM} {A : gA} {x y : Int32} (hc : clsP M A) (hw : wfA A) : Ct G mX7_facing 6 [.ref (ad G 0 0), .int x, .int y] M (Qc M (oFacing A x y)) := by
  obtain ⟨hwf, hday, hwk, hk2, hl, hT, hsh⟩ := id hw
  obtain ⟨w0, w1, w2, w3, wr, wt⟩ := id hwf
  obtain ⟨s0, s2, s3, s4, sr, sth⟩ := id hc.1
  have hK8 : ak A = 1 → aK A 3 ≤ 8 := fun z => (hwk z).1.2.2.2.1
  refine Ct.of (by decide +kernel) (k := 1) (ls0 := [some (.ref (ad G 0 0)), some (.int x), some (.int y), none]) rfl rfl (fun _ _ => trivial) ?_
  intro P hR
  refine r_aload0 hR dX7_facing_0 ?_
  refine r_get hR (by first | decide | assumption | (simp only [gcnt_4, gcnt_1, gcnt_2, gcnt_3, gcnt_12, gcnt_13, gcnt_16]; omega)) fl_X7_10 rfl rfl dX7_facing_1 ?_
  try simp only [s0, s2, s3, s4]
  refine r_iload1 hR dX7_facing_4 ?_
  refine r_cv1v hR kv_X7_121 (by decide) (t_X1_has (by decide) hc.1 w3) (by first | decide | assumption | (simp only [gcnt_4, gcnt_1, gcnt_2, gcnt_3, gcnt_12, gcnt_13, gcnt_16]; omega)) rfl rfl (Nat.le_of_ble_eq_true rfl) dX7_facing_5 ?_
  refine r_if_eq hR 20 dX7_facing_8 (by decide) (fun c8 => ?_) (fun c8 => ?_)
  · try simp (disch := omega) only [nI_ltI, nI_leI, nI_eq, bI_0, Decidable.not_not, lc_lt, lc_gt, lc_ge, lc_le, lc_eq, i64_toInt] at c8
    try simp (disch := omega) only [cv_lt, cv_le, cv_eq, nI_toInt, cv_0] at c8
    first
    | omega
    | refine r_aload0 hR dX7_facing_20 ?_
      refine r_ldc hR ct_X7_81 dX7_facing_21 ?_
      refine r_cv1v hR kv_X7_82 (by decide) (t_X7_findingC (n := 0) (by decide) (by decide)) (by first | decide | assumption | (simp only [gcnt_4, gcnt_1, gcnt_2, gcnt_3, gcnt_12, gcnt_13, gcnt_16]; omega)) rfl rfl (Nat.le_of_ble_eq_true rfl) dX7_facing_23 ?_
      refine r_iret hR dX7_facing_26 ?_
      refine Qc_fnd hc (by decide) ?_
      unfold oFacing
      dsimp only [okI, okT]
      (repeat' split) <;> first | rfl | omega
  · try simp (disch := omega) only [nI_ltI, nI_leI, nI_eq, bI_0, Decidable.not_not, lc_lt, lc_gt, lc_ge, lc_le, lc_eq, i64_toInt] at c8
    try simp (disch := omega) only [cv_lt, cv_le, cv_eq, nI_toInt, cv_0] at c8
    first
    | omega
    | refine r_iload2 hR dX7_facing_11 ?_
      refine r_bipush hR (nI 30) (by decide) dX7_facing_12 ?_
      refine r_cs2v hR ks_X7_157 (by decide) (t_X7_isSpan) (Nat.le_of_ble_eq_true rfl) dX7_facing_14 ?_
      refine r_if_ne hR 27 dX7_facing_17 (by decide) (fun c17 => ?_) (fun c17 => ?_)
      · try simp (disch := omega) only [nI_ltI, nI_leI, nI_eq, bI_0, Decidable.not_not, lc_lt, lc_gt, lc_ge, lc_le, lc_eq, i64_toInt] at c17
        try simp (disch := omega) only [cv_lt, cv_le, cv_eq, nI_toInt, cv_0] at c17
        first
        | omega
        | obtain ⟨n, hn, rfl⟩ := of_in (x := y) (N := 30) (by omega)
          simp (disch := omega) only [nI_toInt] at c17
          obtain ⟨t, ht0, rfl⟩ := of_in (x := x) (N := aS A 3 - 1) (by omega)
          have htt : t < aS A 3 := by rw [nI_toInt (by omega)] at c8; omega
          have e : oFacing A (nI t) (nI n) = (nI (bstAt (aS A) (11 + 4 * t + 2) 7 n), A) := by
            unfold oFacing
            rw [if_pos (by simp (disch := omega) only [okI, okT, nI_toInt]; omega)]
            simp (disch := omega) only [uN_nI]
          have hfg : ∀ v, v ≤ 7 → (fun v => gainN n (va_up (aS A) (11 + 4 * t + 2) v)) v ≤ 99999 * 8 := fun i z => gain_le (wf_th (w := 2) hwf htt (by decide) ⟨fun h => absurd h (by decide), fun h => absurd h (by decide), fun _ => by omega, fun h => absurd h (by decide)⟩) (by show va_up (aS A) (11 + 4 * t + 2) i 0 + n < 20000; rw [vu_o (by omega)]; omega)
          have L : ∀ (j i : Nat) (N : gM), i + j = 7 + 1 → eqX M N → pkB N (fun v => gainN n (va_up (aS A) (11 + 4 * t + 2) v)) i → P 38 [some (.ref (ad G 0 0)), some (.int (nI t)), some (.int (nI n)), some (.int (nI i))] [] N := by
            intro j
            induction j with
            | zero =>
              intro i N hij hX hp
              have hsN := seaP_eqX hX w3 hc.1
              obtain ⟨x0, x2, x3, x4, xr, xth⟩ := id hsN
              have z0 : va_up (aS A) (11 + 4 * t + 2) i 0 = aS A 0 := vu_o (by omega)
              have z3 : va_up (aS A) (11 + 4 * t + 2) i 3 = aS A 3 := vu_o (by omega)
              have hwS : i ≤ 7 → wfS (va_up (aS A) (11 + 4 * t + 2) i) := fun z => wf_th (w := 2) hwf htt (by decide) ⟨fun h => absurd h (by decide), fun h => absurd h (by decide), fun _ => by omega, fun h => absurd h (by decide)⟩
              refine r_iload3 hR dX7_facing_38 ?_
              refine r_bipush hR (nI 8) (by decide) dX7_facing_39 ?_
              refine r_icmp_ge hR 90 dX7_facing_41 (by decide) (fun c41 => ?_) (fun c41 => ?_)
              · try simp (disch := omega) only [nI_ltI, nI_leI, nI_eq, bI_0, Decidable.not_not, lc_lt, lc_gt, lc_ge, lc_le, lc_eq, i64_toInt] at c41
                try simp (disch := omega) only [cv_lt, cv_le, cv_eq, nI_toInt, cv_0] at c41
                first
                | omega
                | refine r_aload0 hR dX7_facing_90 ?_
                  refine r_get hR (by first | decide | assumption | (simp only [gcnt_4, gcnt_1, gcnt_2, gcnt_3, gcnt_12, gcnt_13, gcnt_16]; omega)) fl_X7_46 rfl rfl dX7_facing_91 ?_
                  refine r_get hR (by first | decide | assumption | (simp only [gcnt_4, gcnt_1, gcnt_2, gcnt_3, gcnt_12, gcnt_13, gcnt_16]; omega)) fl_X7_215 rfl rfl dX7_facing_94 ?_
                  refine r_iret hR dX7_facing_97 ?_
                  obtain rfl : i = 7 + 1 := by omega
                  rcases hp with ⟨hz, -⟩ | ⟨k, hk, h70, -⟩
                  · omega
                  · obtain rfl : k = 7 := by omega
                    rw [h70]
                    exact Qc_eqX (A := A) hX w3 hK8 hc e
              · try simp (disch := omega) only [nI_ltI, nI_leI, nI_eq, bI_0, Decidable.not_not, lc_lt, lc_gt, lc_ge, lc_le, lc_eq, i64_toInt] at c41
                try simp (disch := omega) only [cv_lt, cv_le, cv_eq, nI_toInt, cv_0] at c41
                first
                | omega
                | refine r_aload0 hR dX7_facing_44 ?_
                  refine r_get hR (by first | decide | assumption | (simp only [gcnt_4, gcnt_1, gcnt_2, gcnt_3, gcnt_12, gcnt_13, gcnt_16]; omega)) fl_X7_16 rfl rfl dX7_facing_45 ?_
                  refine r_aload0 hR dX7_facing_48 ?_
                  refine r_get hR (by first | decide | assumption | (simp only [gcnt_4, gcnt_1, gcnt_2, gcnt_3, gcnt_12, gcnt_13, gcnt_16]; omega)) fl_X7_10 rfl rfl dX7_facing_49 ?_
                  refine r_cv1u hR kv_X7_207 (by decide) (t_X1_become (by decide) (by decide) (by decide) hsN w3) (by first | decide | assumption | (simp only [gcnt_4, gcnt_1, gcnt_2, gcnt_3, gcnt_12, gcnt_13, gcnt_16]; omega)) rfl rfl (Nat.le_of_ble_eq_true rfl) dX7_facing_52 ?_
                  refine r_aload0 hR dX7_facing_55 ?_
                  refine r_get hR (by first | decide | assumption | (simp only [gcnt_4, gcnt_1, gcnt_2, gcnt_3, gcnt_12, gcnt_13, gcnt_16]; omega)) fl_X7_16 rfl rfl dX7_facing_56 ?_
                  refine r_get hR (by first | decide | assumption | (simp only [gcnt_4, gcnt_1, gcnt_2, gcnt_3, gcnt_12, gcnt_13, gcnt_16]; omega)) fl_X7_124 rfl rfl dX7_facing_59 ?_
                  refine r_iload1 hR dX7_facing_62 ?_
                  refine r_aald hR (t0 := 3) (by first | decide | assumption | (simp only [gcnt_4, gcnt_1, gcnt_2, gcnt_3, gcnt_12, gcnt_13, gcnt_16]; omega)) rfl rfl rfl (by omega) (by decide) rfl dX7_facing_63 ?_
                  refine r_iload3 hR dX7_facing_64 ?_
                  refine r_puti hR (by first | decide | assumption | (simp only [gcnt_4, gcnt_1, gcnt_2, gcnt_3, gcnt_12, gcnt_13, gcnt_16]; omega)) fp_X7_137 rfl rfl (Nat.le_of_ble_eq_true rfl) rfl rfl dX7_facing_65 ?_
                  refine r_mem (M2 := putSea N 1 (va_up (aS A) (11 + 4 * t + 2) i)) ((putSn_seti_t N 1 (aS A) (n := aS A 3) (w := 2) (by omega) (by decide)).trans (by show putSn N 1 _ (aS A 3) = putSn N 1 _ (va_up (aS A) (11 + 4 * t + 2) i 3); rw [z3])) ?_
                  refine r_aload0 hR dX7_facing_68 ?_
                  refine r_get hR (by first | decide | assumption | (simp only [gcnt_4, gcnt_1, gcnt_2, gcnt_3, gcnt_12, gcnt_13, gcnt_16]; omega)) fl_X7_46 rfl rfl dX7_facing_69 ?_
                  refine r_iload3 hR dX7_facing_72 ?_
                  refine r_aload0 hR dX7_facing_73 ?_
                  refine r_get hR (by first | decide | assumption | (simp only [gcnt_4, gcnt_1, gcnt_2, gcnt_3, gcnt_12, gcnt_13, gcnt_16]; omega)) fl_X7_16 rfl rfl dX7_facing_74 ?_
                  refine r_iload2 hR dX7_facing_77 ?_
                  refine r_cv1v hR kv_X7_161 (by decide) (t_X1_gainIn (by decide) (putSea_P N 1 (va_up (aS A) (11 + 4 * t + 2) i)) (hwS (by omega)) (by omega) (by show (va_up (aS A) (11 + 4 * t + 2) i) 0 + n < 20000; omega)) (by first | decide | assumption | (simp only [gcnt_4, gcnt_1, gcnt_2, gcnt_3, gcnt_12, gcnt_13, gcnt_16]; omega)) rfl rfl (Nat.le_of_ble_eq_true rfl) dX7_facing_78 ?_
                  refine r_cv2u hR kv_X7_211 (by decide) (t_X0_weigh rfl) (by first | decide | assumption | (simp only [gcnt_4, gcnt_1, gcnt_2, gcnt_3, gcnt_12, gcnt_13, gcnt_16]; omega)) rfl rfl (Nat.le_of_ble_eq_true rfl) dX7_facing_81 ?_
                  refine r_iinc3 hR (nI 1) (by decide) (fun _ h => by first | (cases h; rfl) | exact absurd h (by simp)) dX7_facing_84 ?_
                  try rw [nI_add]
                  refine r_goto hR 38 dX7_facing_87 (by decide) ?_
                  omega
            | succ j ih =>
              intro i N hij hX hp
              have hsN := seaP_eqX hX w3 hc.1
              obtain ⟨x0, x2, x3, x4, xr, xth⟩ := id hsN
              have z0 : va_up (aS A) (11 + 4 * t + 2) i 0 = aS A 0 := vu_o (by omega)
              have z3 : va_up (aS A) (11 + 4 * t + 2) i 3 = aS A 3 := vu_o (by omega)
              have hwS : i ≤ 7 → wfS (va_up (aS A) (11 + 4 * t + 2) i) := fun z => wf_th (w := 2) hwf htt (by decide) ⟨fun h => absurd h (by decide), fun h => absurd h (by decide), fun _ => by omega, fun h => absurd h (by decide)⟩
              refine r_iload3 hR dX7_facing_38 ?_
              refine r_bipush hR (nI 8) (by decide) dX7_facing_39 ?_
              refine r_icmp_ge hR 90 dX7_facing_41 (by decide) (fun c41 => ?_) (fun c41 => ?_)
              · try simp (disch := omega) only [nI_ltI, nI_leI, nI_eq, bI_0, Decidable.not_not, lc_lt, lc_gt, lc_ge, lc_le, lc_eq, i64_toInt] at c41
                try simp (disch := omega) only [cv_lt, cv_le, cv_eq, nI_toInt, cv_0] at c41
                first
                | omega
                | refine r_aload0 hR dX7_facing_90 ?_
                  refine r_get hR (by first | decide | assumption | (simp only [gcnt_4, gcnt_1, gcnt_2, gcnt_3, gcnt_12, gcnt_13, gcnt_16]; omega)) fl_X7_46 rfl rfl dX7_facing_91 ?_
                  refine r_get hR (by first | decide | assumption | (simp only [gcnt_4, gcnt_1, gcnt_2, gcnt_3, gcnt_12, gcnt_13, gcnt_16]; omega)) fl_X7_215 rfl rfl dX7_facing_94 ?_
                  refine r_iret hR dX7_facing_97 ?_
                  obtain rfl : i = 7 + 1 := by omega
                  rcases hp with ⟨hz, -⟩ | ⟨k, hk, h70, -⟩
                  · omega
                  · obtain rfl : k = 7 := by omega
                    rw [h70]
                    exact Qc_eqX (A := A) hX w3 hK8 hc e
              · try simp (disch := omega) only [nI_ltI, nI_leI, nI_eq, bI_0, Decidable.not_not, lc_lt, lc_gt, lc_ge, lc_le, lc_eq, i64_toInt] at c41
                try simp (disch := omega) only [cv_lt, cv_le, cv_eq, nI_toInt, cv_0] at c41
                first
                | omega
                | refine r_aload0 hR dX7_facing_44 ?_
                  refine r_get hR (by first | decide | assumption | (simp only [gcnt_4, gcnt_1, gcnt_2, gcnt_3, gcnt_12, gcnt_13, gcnt_16]; omega)) fl_X7_16 rfl rfl dX7_facing_45 ?_
                  refine r_aload0 hR dX7_facing_48 ?_
                  refine r_get hR (by first | decide | assumption | (simp only [gcnt_4, gcnt_1, gcnt_2, gcnt_3, gcnt_12, gcnt_13, gcnt_16]; omega)) fl_X7_10 rfl rfl dX7_facing_49 ?_
                  refine r_cv1u hR kv_X7_207 (by decide) (t_X1_become (by decide) (by decide) (by decide) hsN w3) (by first | decide | assumption | (simp only [gcnt_4, gcnt_1, gcnt_2, gcnt_3, gcnt_12, gcnt_13, gcnt_16]; omega)) rfl rfl (Nat.le_of_ble_eq_true rfl) dX7_facing_52 ?_
                  refine r_aload0 hR dX7_facing_55 ?_
                  refine r_get hR (by first | decide | assumption | (simp only [gcnt_4, gcnt_1, gcnt_2, gcnt_3, gcnt_12, gcnt_13, gcnt_16]; omega)) fl_X7_16 rfl rfl dX7_facing_56 ?_
                  refine r_get hR (by first | decide | assumption | (simp only [gcnt_4, gcnt_1, gcnt_2, gcnt_3, gcnt_12, gcnt_13, gcnt_16]; omega)) fl_X7_124 rfl rfl dX7_facing_59 ?_
                  refine r_iload1 hR dX7_facing_62 ?_
                  refine r_aald hR (t0 := 3) (by first | decide | assumption | (simp only [gcnt_4, gcnt_1, gcnt_2, gcnt_3, gcnt_12, gcnt_13, gcnt_16]; omega)) rfl rfl rfl (by omega) (by decide) rfl dX7_facing_63 ?_
                  refine r_iload3 hR dX7_facing_64 ?_
                  refine r_puti hR (by first | decide | assumption | (simp only [gcnt_4, gcnt_1, gcnt_2, gcnt_3, gcnt_12, gcnt_13, gcnt_16]; omega)) fp_X7_137 rfl rfl (Nat.le_of_ble_eq_true rfl) rfl rfl dX7_facing_65 ?_
                  refine r_mem (M2 := putSea N 1 (va_up (aS A) (11 + 4 * t + 2) i)) ((putSn_seti_t N 1 (aS A) (n := aS A 3) (w := 2) (by omega) (by decide)).trans (by show putSn N 1 _ (aS A 3) = putSn N 1 _ (va_up (aS A) (11 + 4 * t + 2) i 3); rw [z3])) ?_
                  refine r_aload0 hR dX7_facing_68 ?_
                  refine r_get hR (by first | decide | assumption | (simp only [gcnt_4, gcnt_1, gcnt_2, gcnt_3, gcnt_12, gcnt_13, gcnt_16]; omega)) fl_X7_46 rfl rfl dX7_facing_69 ?_
                  refine r_iload3 hR dX7_facing_72 ?_
                  refine r_aload0 hR dX7_facing_73 ?_
                  refine r_get hR (by first | decide | assumption | (simp only [gcnt_4, gcnt_1, gcnt_2, gcnt_3, gcnt_12, gcnt_13, gcnt_16]; omega)) fl_X7_16 rfl rfl dX7_facing_74 ?_
                  refine r_iload2 hR dX7_facing_77 ?_
                  refine r_cv1v hR kv_X7_161 (by decide) (t_X1_gainIn (by decide) (putSea_P N 1 (va_up (aS A) (11 + 4 * t + 2) i)) (hwS (by omega)) (by omega) (by show (va_up (aS A) (11 + 4 * t + 2) i) 0 + n < 20000; omega)) (by first | decide | assumption | (simp only [gcnt_4, gcnt_1, gcnt_2, gcnt_3, gcnt_12, gcnt_13, gcnt_16]; omega)) rfl rfl (Nat.le_of_ble_eq_true rfl) dX7_facing_78 ?_
                  refine r_cv2u hR kv_X7_211 (by decide) (t_X0_weigh rfl) (by first | decide | assumption | (simp only [gcnt_4, gcnt_1, gcnt_2, gcnt_3, gcnt_12, gcnt_13, gcnt_16]; omega)) rfl rfl (Nat.le_of_ble_eq_true rfl) dX7_facing_81 ?_
                  refine r_iinc3 hR (nI 1) (by decide) (fun _ h => by first | (cases h; rfl) | exact absurd h (by simp)) dX7_facing_84 ?_
                  try rw [nI_add]
                  refine r_goto hR 38 dX7_facing_87 (by decide) ?_
                  have hpk : pkB (putSea (putSea N 1 (va_up (aS A) (11 + 4 * t + 2) i)) 1 (dayN n (va_up (aS A) (11 + 4 * t + 2) i))) (fun v => gainN n (va_up (aS A) (11 + 4 * t + 2) v)) i := by unfold pkB at hp ⊢; simp only [put_7]; exact hp
                  have hok := pkB_ok (m := 7) (hX.tr ((eqX_put1 N _ (show (va_up (aS A) (11 + 4 * t + 2) i) 3 ≤ 8 by omega)).tr (eqX_put1 _ _ (by rw [dayN_3]; omega)))) hpk rfl hfg (by omega)
                  exact ih (i + 1) _ (by omega) hok.1 hok.2
          refine r_aload0 hR dX7_facing_27 ?_
          refine r_get hR (by first | decide | assumption | (simp only [gcnt_4, gcnt_1, gcnt_2, gcnt_3, gcnt_12, gcnt_13, gcnt_16]; omega)) fl_X7_46 rfl rfl dX7_facing_28 ?_
          try simp only [s0, s2, s3, s4]
          refine r_ldc hR ct_X7_218 dX7_facing_31 ?_
          refine r_cv1u hR kv_X7_210 (by decide) (t_X0_begin) (by first | decide | assumption | (simp only [gcnt_4, gcnt_1, gcnt_2, gcnt_3, gcnt_12, gcnt_13, gcnt_16]; omega)) rfl rfl (Nat.le_of_ble_eq_true rfl) dX7_facing_33 ?_
          refine r_iconst hR (nI 0) (by decide) dX7_facing_36 ?_
          refine r_istore3 hR (fun _ h => by first | (cases h; rfl) | exact absurd h (by simp)) dX7_facing_37 ?_
          exact L (7 + 1) 0 _ (by omega) ((eqX_seti M (by unfold scr; omega)).tr (eqX_seti _ (by unfold scr; omega))) (Or.inl ⟨rfl, by simp [seti_r]⟩)
      · try simp (disch := omega) only [nI_ltI, nI_leI, nI_eq, bI_0, Decidable.not_not, lc_lt, lc_gt, lc_ge, lc_le, lc_eq, i64_toInt] at c17
        try simp (disch := omega) only [cv_lt, cv_le, cv_eq, nI_toInt, cv_0] at c17
        first
        | omega
        | refine r_aload0 hR dX7_facing_20 ?_
          refine r_ldc hR ct_X7_81 dX7_facing_21 ?_
          refine r_cv1v hR kv_X7_82 (by decide) (t_X7_findingC (n := 0) (by decide) (by decide)) (by first | decide | assumption | (simp only [gcnt_4, gcnt_1, gcnt_2, gcnt_3, gcnt_12, gcnt_13, gcnt_16]; omega)) rfl rfl (Nat.le_of_ble_eq_true rfl) dX7_facing_23 ?_
          refine r_iret hR dX7_facing_26 ?_
          refine Qc_fnd hc (by decide) ?_
          unfold oFacing
          dsimp only [okI, okT]
          (repeat' split) <;> first | rfl | omega

set_option maxHeartbeats 4000000 in
set_option maxRecDepth 100000 in
theorem t_X7_best {G : gG} {M : gM} {A : gA} {x y : Int32} (hc : clsP M A) (hw : wfA A) : Ct G mX7_best 6 [.ref (ad G 0 0), .int x, .int y] M (Qc M (oBest A x y)) := by
  obtain ⟨hwf, hday, hwk, hk2, hl, hT, hsh⟩ := id hw
  obtain ⟨w0, w1, w2, w3, wr, wt⟩ := id hwf
  obtain ⟨s0, s2, s3, s4, sr, sth⟩ := id hc.1
  have hK8 : ak A = 1 → aK A 3 ≤ 8 := fun z => (hwk z).1.2.2.2.1
  refine Ct.of (by decide +kernel) (k := 1) (ls0 := [some (.ref (ad G 0 0)), some (.int x), some (.int y), none]) rfl rfl (fun _ _ => trivial) ?_
  intro P hR
  refine r_iload1 hR dX7_best_0 ?_
  refine r_bipush hR (nI 6) (by decide) dX7_best_1 ?_
  refine r_cs2v hR ks_X7_77 (by decide) (t_X7_within) (Nat.le_of_ble_eq_true rfl) dX7_best_3 ?_
  refine r_if_eq hR 18 dX7_best_6 (by decide) (fun c6 => ?_) (fun c6 => ?_)
  · try simp (disch := omega) only [nI_ltI, nI_leI, nI_eq, bI_0, Decidable.not_not, lc_lt, lc_gt, lc_ge, lc_le, lc_eq, i64_toInt] at c6
    try simp (disch := omega) only [cv_lt, cv_le, cv_eq, nI_toInt, cv_0] at c6
    first
    | omega
    | refine r_aload0 hR dX7_best_18 ?_
      refine r_ldc hR ct_X7_81 dX7_best_19 ?_
      refine r_cv1v hR kv_X7_82 (by decide) (t_X7_findingC (n := 0) (by decide) (by decide)) (by first | decide | assumption | (simp only [gcnt_4, gcnt_1, gcnt_2, gcnt_3, gcnt_12, gcnt_13, gcnt_16]; omega)) rfl rfl (Nat.le_of_ble_eq_true rfl) dX7_best_21 ?_
      refine r_iret hR dX7_best_24 ?_
      refine Qc_fnd hc (by decide) ?_
      unfold oBest
      dsimp only [okI, okT]
      (repeat' split) <;> first | rfl | omega
  · try simp (disch := omega) only [nI_ltI, nI_leI, nI_eq, bI_0, Decidable.not_not, lc_lt, lc_gt, lc_ge, lc_le, lc_eq, i64_toInt] at c6
    try simp (disch := omega) only [cv_lt, cv_le, cv_eq, nI_toInt, cv_0] at c6
    first
    | omega
    | refine r_iload2 hR dX7_best_9 ?_
      refine r_bipush hR (nI 30) (by decide) dX7_best_10 ?_
      refine r_cs2v hR ks_X7_157 (by decide) (t_X7_isSpan) (Nat.le_of_ble_eq_true rfl) dX7_best_12 ?_
      refine r_if_ne hR 25 dX7_best_15 (by decide) (fun c15 => ?_) (fun c15 => ?_)
      · try simp (disch := omega) only [nI_ltI, nI_leI, nI_eq, bI_0, Decidable.not_not, lc_lt, lc_gt, lc_ge, lc_le, lc_eq, i64_toInt] at c15
        try simp (disch := omega) only [cv_lt, cv_le, cv_eq, nI_toInt, cv_0] at c15
        first
        | omega
        | obtain ⟨d, hd, rfl⟩ := of_in (x := x) (N := 6) (by omega)
          obtain ⟨n, hn, rfl⟩ := of_in (x := y) (N := 30) (by omega)
          simp (disch := omega) only [nI_toInt] at c15
          have e : oBest A (nI d) (nI n) = (nI (bstAt (aS A) (4 + d) 8 n), A) := by
            unfold oBest
            rw [if_pos (by simp (disch := omega) only [okI, okT, nI_toInt]; omega)]
            simp (disch := omega) only [uN_nI]
          have hfg : ∀ v, v ≤ 8 → (fun v => gainN n (va_up (aS A) (4 + d) v)) v ≤ 99999 * 8 := fun i z => gain_le (wf_rota hwf (by omega) (by omega)) (by show va_up (aS A) (4 + d) i 0 + n < 20000; rw [vu_o (by omega)]; omega)
          have L : ∀ (j i : Nat) (N : gM), i + j = 8 + 1 → eqX M N → pkB N (fun v => gainN n (va_up (aS A) (4 + d) v)) i → P 36 [some (.ref (ad G 0 0)), some (.int (nI d)), some (.int (nI n)), some (.int (nI i))] [] N := by
            intro j
            induction j with
            | zero =>
              intro i N hij hX hp
              have hsN := seaP_eqX hX w3 hc.1
              obtain ⟨x0, x2, x3, x4, xr, xth⟩ := id hsN
              have z0 : va_up (aS A) (4 + d) i 0 = aS A 0 := vu_o (by omega)
              have z3 : va_up (aS A) (4 + d) i 3 = aS A 3 := vu_o (by omega)
              have hwS : i ≤ 8 → wfS (va_up (aS A) (4 + d) i) := fun z => wf_rota hwf (by omega) (by omega)
              refine r_iload3 hR dX7_best_36 ?_
              refine r_bipush hR (nI 8) (by decide) dX7_best_37 ?_
              refine r_icmp_gt hR 85 dX7_best_39 (by decide) (fun c39 => ?_) (fun c39 => ?_)
              · try simp (disch := omega) only [nI_ltI, nI_leI, nI_eq, bI_0, Decidable.not_not, lc_lt, lc_gt, lc_ge, lc_le, lc_eq, i64_toInt] at c39
                try simp (disch := omega) only [cv_lt, cv_le, cv_eq, nI_toInt, cv_0] at c39
                first
                | omega
                | refine r_aload0 hR dX7_best_85 ?_
                  refine r_get hR (by first | decide | assumption | (simp only [gcnt_4, gcnt_1, gcnt_2, gcnt_3, gcnt_12, gcnt_13, gcnt_16]; omega)) fl_X7_46 rfl rfl dX7_best_86 ?_
                  refine r_get hR (by first | decide | assumption | (simp only [gcnt_4, gcnt_1, gcnt_2, gcnt_3, gcnt_12, gcnt_13, gcnt_16]; omega)) fl_X7_215 rfl rfl dX7_best_89 ?_
                  refine r_iret hR dX7_best_92 ?_
                  obtain rfl : i = 8 + 1 := by omega
                  rcases hp with ⟨hz, -⟩ | ⟨k, hk, h70, -⟩
                  · omega
                  · obtain rfl : k = 8 := by omega
                    rw [h70]
                    exact Qc_eqX (A := A) hX w3 hK8 hc e
              · try simp (disch := omega) only [nI_ltI, nI_leI, nI_eq, bI_0, Decidable.not_not, lc_lt, lc_gt, lc_ge, lc_le, lc_eq, i64_toInt] at c39
                try simp (disch := omega) only [cv_lt, cv_le, cv_eq, nI_toInt, cv_0] at c39
                first
                | omega
                | refine r_aload0 hR dX7_best_42 ?_
                  refine r_get hR (by first | decide | assumption | (simp only [gcnt_4, gcnt_1, gcnt_2, gcnt_3, gcnt_12, gcnt_13, gcnt_16]; omega)) fl_X7_16 rfl rfl dX7_best_43 ?_
                  refine r_aload0 hR dX7_best_46 ?_
                  refine r_get hR (by first | decide | assumption | (simp only [gcnt_4, gcnt_1, gcnt_2, gcnt_3, gcnt_12, gcnt_13, gcnt_16]; omega)) fl_X7_10 rfl rfl dX7_best_47 ?_
                  refine r_cv1u hR kv_X7_207 (by decide) (t_X1_become (by decide) (by decide) (by decide) hsN w3) (by first | decide | assumption | (simp only [gcnt_4, gcnt_1, gcnt_2, gcnt_3, gcnt_12, gcnt_13, gcnt_16]; omega)) rfl rfl (Nat.le_of_ble_eq_true rfl) dX7_best_50 ?_
                  refine r_aload0 hR dX7_best_53 ?_
                  refine r_get hR (by first | decide | assumption | (simp only [gcnt_4, gcnt_1, gcnt_2, gcnt_3, gcnt_12, gcnt_13, gcnt_16]; omega)) fl_X7_16 rfl rfl dX7_best_54 ?_
                  refine r_get hR (by first | decide | assumption | (simp only [gcnt_4, gcnt_1, gcnt_2, gcnt_3, gcnt_12, gcnt_13, gcnt_16]; omega)) fl_X7_86 rfl rfl dX7_best_57 ?_
                  refine r_iload1 hR dX7_best_60 ?_
                  refine r_iload3 hR dX7_best_61 ?_
                  refine r_iast hR (by first | decide | assumption | (simp only [gcnt_4, gcnt_1, gcnt_2, gcnt_3, gcnt_12, gcnt_13, gcnt_16]; omega)) (fun _ => rfl) rfl (by omega) (by decide) dX7_best_62 ?_
                  refine r_mem (M2 := putSea N 1 (va_up (aS A) (4 + d) i)) ((putSn_seti_o N 1 (aS A) (aS A 3) (by omega)).trans (by show putSn N 1 _ (aS A 3) = putSn N 1 _ (va_up (aS A) (4 + d) i 3); rw [z3])) ?_
                  refine r_aload0 hR dX7_best_63 ?_
                  refine r_get hR (by first | decide | assumption | (simp only [gcnt_4, gcnt_1, gcnt_2, gcnt_3, gcnt_12, gcnt_13, gcnt_16]; omega)) fl_X7_46 rfl rfl dX7_best_64 ?_
                  refine r_iload3 hR dX7_best_67 ?_
                  refine r_aload0 hR dX7_best_68 ?_
                  refine r_get hR (by first | decide | assumption | (simp only [gcnt_4, gcnt_1, gcnt_2, gcnt_3, gcnt_12, gcnt_13, gcnt_16]; omega)) fl_X7_16 rfl rfl dX7_best_69 ?_
                  refine r_iload2 hR dX7_best_72 ?_
                  refine r_cv1v hR kv_X7_161 (by decide) (t_X1_gainIn (by decide) (putSea_P N 1 (va_up (aS A) (4 + d) i)) (hwS (by omega)) (by omega) (by show (va_up (aS A) (4 + d) i) 0 + n < 20000; omega)) (by first | decide | assumption | (simp only [gcnt_4, gcnt_1, gcnt_2, gcnt_3, gcnt_12, gcnt_13, gcnt_16]; omega)) rfl rfl (Nat.le_of_ble_eq_true rfl) dX7_best_73 ?_
                  refine r_cv2u hR kv_X7_211 (by decide) (t_X0_weigh rfl) (by first | decide | assumption | (simp only [gcnt_4, gcnt_1, gcnt_2, gcnt_3, gcnt_12, gcnt_13, gcnt_16]; omega)) rfl rfl (Nat.le_of_ble_eq_true rfl) dX7_best_76 ?_
                  refine r_iinc3 hR (nI 1) (by decide) (fun _ h => by first | (cases h; rfl) | exact absurd h (by simp)) dX7_best_79 ?_
                  try rw [nI_add]
                  refine r_goto hR 36 dX7_best_82 (by decide) ?_
                  omega
            | succ j ih =>
              intro i N hij hX hp
              have hsN := seaP_eqX hX w3 hc.1
              obtain ⟨x0, x2, x3, x4, xr, xth⟩ := id hsN
              have z0 : va_up (aS A) (4 + d) i 0 = aS A 0 := vu_o (by omega)
              have z3 : va_up (aS A) (4 + d) i 3 = aS A 3 := vu_o (by omega)
              have hwS : i ≤ 8 → wfS (va_up (aS A) (4 + d) i) := fun z => wf_rota hwf (by omega) (by omega)
              refine r_iload3 hR dX7_best_36 ?_
              refine r_bipush hR (nI 8) (by decide) dX7_best_37 ?_
              refine r_icmp_gt hR 85 dX7_best_39 (by decide) (fun c39 => ?_) (fun c39 => ?_)
              · try simp (disch := omega) only [nI_ltI, nI_leI, nI_eq, bI_0, Decidable.not_not, lc_lt, lc_gt, lc_ge, lc_le, lc_eq, i64_toInt] at c39
                try simp (disch := omega) only [cv_lt, cv_le, cv_eq, nI_toInt, cv_0] at c39
                first
                | omega
                | refine r_aload0 hR dX7_best_85 ?_
                  refine r_get hR (by first | decide | assumption | (simp only [gcnt_4, gcnt_1, gcnt_2, gcnt_3, gcnt_12, gcnt_13, gcnt_16]; omega)) fl_X7_46 rfl rfl dX7_best_86 ?_
                  refine r_get hR (by first | decide | assumption | (simp only [gcnt_4, gcnt_1, gcnt_2, gcnt_3, gcnt_12, gcnt_13, gcnt_16]; omega)) fl_X7_215 rfl rfl dX7_best_89 ?_
                  refine r_iret hR dX7_best_92 ?_
                  obtain rfl : i = 8 + 1 := by omega
                  rcases hp with ⟨hz, -⟩ | ⟨k, hk, h70, -⟩
                  · omega
                  · obtain rfl : k = 8 := by omega
                    rw [h70]
                    exact Qc_eqX (A := A) hX w3 hK8 hc e
              · try simp (disch := omega) only [nI_ltI, nI_leI, nI_eq, bI_0, Decidable.not_not, lc_lt, lc_gt, lc_ge, lc_le, lc_eq, i64_toInt] at c39
                try simp (disch := omega) only [cv_lt, cv_le, cv_eq, nI_toInt, cv_0] at c39
                first
                | omega
                | refine r_aload0 hR dX7_best_42 ?_
                  refine r_get hR (by first | decide | assumption | (simp only [gcnt_4, gcnt_1, gcnt_2, gcnt_3, gcnt_12, gcnt_13, gcnt_16]; omega)) fl_X7_16 rfl rfl dX7_best_43 ?_
                  refine r_aload0 hR dX7_best_46 ?_
                  refine r_get hR (by first | decide | assumption | (simp only [gcnt_4, gcnt_1, gcnt_2, gcnt_3, gcnt_12, gcnt_13, gcnt_16]; omega)) fl_X7_10 rfl rfl dX7_best_47 ?_
                  refine r_cv1u hR kv_X7_207 (by decide) (t_X1_become (by decide) (by decide) (by decide) hsN w3) (by first | decide | assumption | (simp only [gcnt_4, gcnt_1, gcnt_2, gcnt_3, gcnt_12, gcnt_13, gcnt_16]; omega)) rfl rfl (Nat.le_of_ble_eq_true rfl) dX7_best_50 ?_
                  refine r_aload0 hR dX7_best_53 ?_
                  refine r_get hR (by first | decide | assumption | (simp only [gcnt_4, gcnt_1, gcnt_2, gcnt_3, gcnt_12, gcnt_13, gcnt_16]; omega)) fl_X7_16 rfl rfl dX7_best_54 ?_
                  refine r_get hR (by first | decide | assumption | (simp only [gcnt_4, gcnt_1, gcnt_2, gcnt_3, gcnt_12, gcnt_13, gcnt_16]; omega)) fl_X7_86 rfl rfl dX7_best_57 ?_
                  refine r_iload1 hR dX7_best_60 ?_
                  refine r_iload3 hR dX7_best_61 ?_
                  refine r_iast hR (by first | decide | assumption | (simp only [gcnt_4, gcnt_1, gcnt_2, gcnt_3, gcnt_12, gcnt_13, gcnt_16]; omega)) (fun _ => rfl) rfl (by omega) (by decide) dX7_best_62 ?_
                  refine r_mem (M2 := putSea N 1 (va_up (aS A) (4 + d) i)) ((putSn_seti_o N 1 (aS A) (aS A 3) (by omega)).trans (by show putSn N 1 _ (aS A 3) = putSn N 1 _ (va_up (aS A) (4 + d) i 3); rw [z3])) ?_
                  refine r_aload0 hR dX7_best_63 ?_
                  refine r_get hR (by first | decide | assumption | (simp only [gcnt_4, gcnt_1, gcnt_2, gcnt_3, gcnt_12, gcnt_13, gcnt_16]; omega)) fl_X7_46 rfl rfl dX7_best_64 ?_
                  refine r_iload3 hR dX7_best_67 ?_
                  refine r_aload0 hR dX7_best_68 ?_
                  refine r_get hR (by first | decide | assumption | (simp only [gcnt_4, gcnt_1, gcnt_2, gcnt_3, gcnt_12, gcnt_13, gcnt_16]; omega)) fl_X7_16 rfl rfl dX7_best_69 ?_
                  refine r_iload2 hR dX7_best_72 ?_
                  refine r_cv1v hR kv_X7_161 (by decide) (t_X1_gainIn (by decide) (putSea_P N 1 (va_up (aS A) (4 + d) i)) (hwS (by omega)) (by omega) (by show (va_up (aS A) (4 + d) i) 0 + n < 20000; omega)) (by first | decide | assumption | (simp only [gcnt_4, gcnt_1, gcnt_2, gcnt_3, gcnt_12, gcnt_13, gcnt_16]; omega)) rfl rfl (Nat.le_of_ble_eq_true rfl) dX7_best_73 ?_
                  refine r_cv2u hR kv_X7_211 (by decide) (t_X0_weigh rfl) (by first | decide | assumption | (simp only [gcnt_4, gcnt_1, gcnt_2, gcnt_3, gcnt_12, gcnt_13, gcnt_16]; omega)) rfl rfl (Nat.le_of_ble_eq_true rfl) dX7_best_76 ?_
                  refine r_iinc3 hR (nI 1) (by decide) (fun _ h => by first | (cases h; rfl) | exact absurd h (by simp)) dX7_best_79 ?_
                  try rw [nI_add]
                  refine r_goto hR 36 dX7_best_82 (by decide) ?_
                  have hpk : pkB (putSea (putSea N 1 (va_up (aS A) (4 + d) i)) 1 (dayN n (va_up (aS A) (4 + d) i))) (fun v => gainN n (va_up (aS A) (4 + d) v)) i := by unfold pkB at hp ⊢; simp only [put_7]; exact hp
                  have hok := pkB_ok (m := 8) (hX.tr ((eqX_put1 N _ (show (va_up (aS A) (4 + d) i) 3 ≤ 8 by omega)).tr (eqX_put1 _ _ (by rw [dayN_3]; omega)))) hpk rfl hfg (by omega)
                  exact ih (i + 1) _ (by omega) hok.1 hok.2
          refine r_aload0 hR dX7_best_25 ?_
          refine r_get hR (by first | decide | assumption | (simp only [gcnt_4, gcnt_1, gcnt_2, gcnt_3, gcnt_12, gcnt_13, gcnt_16]; omega)) fl_X7_46 rfl rfl dX7_best_26 ?_
          try simp only [s0, s2, s3, s4]
          refine r_ldc hR ct_X7_218 dX7_best_29 ?_
          refine r_cv1u hR kv_X7_210 (by decide) (t_X0_begin) (by first | decide | assumption | (simp only [gcnt_4, gcnt_1, gcnt_2, gcnt_3, gcnt_12, gcnt_13, gcnt_16]; omega)) rfl rfl (Nat.le_of_ble_eq_true rfl) dX7_best_31 ?_
          refine r_iconst hR (nI 0) (by decide) dX7_best_34 ?_
          refine r_istore3 hR (fun _ h => by first | (cases h; rfl) | exact absurd h (by simp)) dX7_best_35 ?_
          exact L (8 + 1) 0 _ (by omega) ((eqX_seti M (by unfold scr; omega)).tr (eqX_seti _ (by unfold scr; omega))) (Or.inl ⟨rfl, by simp [seti_r]⟩)
      · try simp (disch := omega) only [nI_ltI, nI_leI, nI_eq, bI_0, Decidable.not_not, lc_lt, lc_gt, lc_ge, lc_le, lc_eq, i64_toInt] at c15
        try simp (disch := omega) only [cv_lt, cv_le, cv_eq, nI_toInt, cv_0] at c15
        first
        | omega
        | refine r_aload0 hR dX7_best_18 ?_
          refine r_ldc hR ct_X7_81 dX7_best_19 ?_
          refine r_cv1v hR kv_X7_82 (by decide) (t_X7_findingC (n := 0) (by decide) (by decide)) (by first | decide | assumption | (simp only [gcnt_4, gcnt_1, gcnt_2, gcnt_3, gcnt_12, gcnt_13, gcnt_16]; omega)) rfl rfl (Nat.le_of_ble_eq_true rfl) dX7_best_21 ?_
          refine r_iret hR dX7_best_24 ?_
          refine Qc_fnd hc (by decide) ?_
          unfold oBest
          dsimp only [okI, okT]
          (repeat' split) <;> first | rfl | omega

set_option maxHeartbeats 4000000 in
set_option maxRecDepth 100000 in
theorem t_X7_swap {G : gG} {M : gM} {A : gA} {x : Int32} (hc : clsP M A) (hw : wfA A) : Ct G mX7_swap 6 [.ref (ad G 0 0), .int x] M (Qc M (oSwap A x)) := by
  obtain ⟨hwf, hday, hwk, hk2, hl, hT, hsh⟩ := id hw
  obtain ⟨w0, w1, w2, w3, wr, wt⟩ := id hwf
  obtain ⟨s0, s2, s3, s4, sr, sth⟩ := id hc.1
  have hK8 : ak A = 1 → aK A 3 ≤ 8 := fun z => (hwk z).1.2.2.2.1
  refine Ct.of (by decide +kernel) (k := 2) (ls0 := [some (.ref (ad G 0 0)), some (.int x), none, none]) rfl rfl (fun _ _ => trivial) ?_
  intro P hR
  refine r_iload1 hR dX7_swap_0 ?_
  refine r_bipush hR (nI 30) (by decide) dX7_swap_1 ?_
  refine r_cs2v hR ks_X7_157 (by decide) (t_X7_isSpan) (Nat.le_of_ble_eq_true rfl) dX7_swap_3 ?_
  refine r_if_ne hR 16 dX7_swap_6 (by decide) (fun c6 => ?_) (fun c6 => ?_)
  · try simp (disch := omega) only [nI_ltI, nI_leI, nI_eq, bI_0, Decidable.not_not, lc_lt, lc_gt, lc_ge, lc_le, lc_eq, i64_toInt] at c6
    try simp (disch := omega) only [cv_lt, cv_le, cv_eq, nI_toInt, cv_0] at c6
    first
    | omega
    | obtain ⟨n, hn, rfl⟩ := of_in (x := x) (N := 30) (by omega)
      simp (disch := omega) only [nI_toInt] at c6
      have e : oSwap A (nI n) = if (swpA (aS A) n 7).1 = -1 then fnd A 3 else ((swpA (aS A) n 7).1, A) := by
        unfold oSwap
        rw [if_pos (by simp (disch := omega) only [okI, okT, nI_toInt]; omega)]
        simp (disch := omega) only [uN_nI]
      have L1 : ∀ (j a : Nat) (N : gM) (x3 : Option Value), a + j = 7 → eqX M N → N.1 7 0 0 = (swpA (aS A) n a).1 → N.1 7 0 1 = nI (swpA (aS A) n a).2 → P 44 [some (.ref (ad G 0 0)), some (.int (nI n)), some (.int (nI a)), x3] [] N := by
        intro j
        induction j with
        | zero =>
          intro a N x3 hij hX h70 h71
          refine r_iload2 hR dX7_swap_44 ?_
          refine r_bipush hR (nI 7) (by decide) dX7_swap_45 ?_
          refine r_icmp_ge hR 140 dX7_swap_47 (by decide) (fun c47 => ?_) (fun c47 => ?_)
          · try simp (disch := omega) only [nI_ltI, nI_leI, nI_eq, bI_0, Decidable.not_not, lc_lt, lc_gt, lc_ge, lc_le, lc_eq, i64_toInt] at c47
            try simp (disch := omega) only [cv_lt, cv_le, cv_eq, nI_toInt, cv_0] at c47
            first
            | omega
            | refine r_aload0 hR dX7_swap_140 ?_
              refine r_get hR (by first | decide | assumption | (simp only [gcnt_4, gcnt_1, gcnt_2, gcnt_3, gcnt_12, gcnt_13, gcnt_16]; omega)) fl_X7_46 rfl rfl dX7_swap_141 ?_
              refine r_get hR (by first | decide | assumption | (simp only [gcnt_4, gcnt_1, gcnt_2, gcnt_3, gcnt_12, gcnt_13, gcnt_16]; omega)) fl_X7_215 rfl rfl dX7_swap_144 ?_
              rw [h70]
              refine r_iconst hR (-1) (by decide) dX7_swap_147 ?_
              refine r_icmp_ne hR 160 dX7_swap_148 (by decide) (fun c148 => ?_) (fun c148 => ?_)
              · try simp (disch := omega) only [nI_ltI, nI_leI, nI_eq, bI_0, Decidable.not_not, lc_lt, lc_gt, lc_ge, lc_le, lc_eq, i64_toInt] at c148
                try simp (disch := omega) only [cv_lt, cv_le, cv_eq, nI_toInt, cv_0] at c148
                first
                | omega
                | refine r_aload0 hR dX7_swap_160 ?_
                  refine r_get hR (by first | decide | assumption | (simp only [gcnt_4, gcnt_1, gcnt_2, gcnt_3, gcnt_12, gcnt_13, gcnt_16]; omega)) fl_X7_46 rfl rfl dX7_swap_161 ?_
                  refine r_get hR (by first | decide | assumption | (simp only [gcnt_4, gcnt_1, gcnt_2, gcnt_3, gcnt_12, gcnt_13, gcnt_16]; omega)) fl_X7_215 rfl rfl dX7_swap_164 ?_
                  rw [h70]
                  refine r_iret hR dX7_swap_167 ?_
                  obtain rfl : a = 7 := by omega
                  first
                  | (refine Qc_eqX (A := A) hX w3 hK8 hc ?_
                     rw [e, if_neg (fun q => c148 (by rw [q]))])
                  | (refine Qc_fndX (A := A) hX w3 hK8 hc (by decide) ?_
                     rw [e, if_pos (by rw [cv_eq]; exact c148)])
              · try simp (disch := omega) only [nI_ltI, nI_leI, nI_eq, bI_0, Decidable.not_not, lc_lt, lc_gt, lc_ge, lc_le, lc_eq, i64_toInt] at c148
                try simp (disch := omega) only [cv_lt, cv_le, cv_eq, nI_toInt, cv_0] at c148
                first
                | omega
                | refine r_aload0 hR dX7_swap_151 ?_
                  refine r_ldc hR ct_X7_108 dX7_swap_152 ?_
                  refine r_cv1v hR kv_X7_82 (by decide) (t_X7_findingC (n := 3) (by decide) (by decide)) (by first | decide | assumption | (simp only [gcnt_4, gcnt_1, gcnt_2, gcnt_3, gcnt_12, gcnt_13, gcnt_16]; omega)) rfl rfl (Nat.le_of_ble_eq_true rfl) dX7_swap_154 ?_
                  refine r_goto hR 167 dX7_swap_157 (by decide) ?_
                  refine r_iret hR dX7_swap_167 ?_
                  obtain rfl : a = 7 := by omega
                  first
                  | (refine Qc_eqX (A := A) hX w3 hK8 hc ?_
                     rw [e, if_neg (fun q => c148 (by rw [q]))])
                  | (refine Qc_fndX (A := A) hX w3 hK8 hc (by decide) ?_
                     rw [e, if_pos (by rw [cv_eq]; exact c148)])
          · try simp (disch := omega) only [nI_ltI, nI_leI, nI_eq, bI_0, Decidable.not_not, lc_lt, lc_gt, lc_ge, lc_le, lc_eq, i64_toInt] at c47
            try simp (disch := omega) only [cv_lt, cv_le, cv_eq, nI_toInt, cv_0] at c47
            first
            | omega
            | refine r_iload2 hR dX7_swap_50 ?_
              refine r_iconst hR (nI 1) (by decide) dX7_swap_51 ?_
              refine r_iadd hR dX7_swap_52 ?_
              try rw [nI_add]
              refine r_istore3 hR (fun _ h => by first | (cases h; rfl) | exact absurd h (by simp)) dX7_swap_53 ?_
              omega
        | succ j ih =>
          intro a N x3 hij hX h70 h71
          have L2 : ∀ (j2 k : Nat) (N : gM), k + j2 = 6 - a → eqX M N → N.1 7 0 0 = (swpB (aS A) n a (swpA (aS A) n a) k).1 → N.1 7 0 1 = nI (swpB (aS A) n a (swpA (aS A) n a) k).2 → P 54 [some (.ref (ad G 0 0)), some (.int (nI n)), some (.int (nI a)), some (.int (nI (a + 1 + k)))] [] N := by
            intro j2
            induction j2 with
            | zero =>
              intro k N hk2 hX h70 h71
              have hsN := seaP_eqX hX w3 hc.1
              obtain ⟨x0, x2, x3, x4, xr, xth⟩ := id hsN
              have z0 : k < 6 - a → (swpS (aS A) a (a + 1 + k)) 0 = aS A 0 := fun _ => by unfold swpS; rw [if_neg (by omega), if_neg (by omega)]
              have z3 : k < 6 - a → (swpS (aS A) a (a + 1 + k)) 3 = aS A 3 := fun _ => by unfold swpS; rw [if_neg (by omega), if_neg (by omega)]
              have hwS : k < 6 - a → wfS (swpS (aS A) a (a + 1 + k)) := fun z => wf_swp hwf (by omega) (by omega) (by omega)
              refine r_iload3 hR dX7_swap_54 ?_
              refine r_bipush hR (nI 7) (by decide) dX7_swap_55 ?_
              refine r_icmp_ge hR 134 dX7_swap_57 (by decide) (fun c57 => ?_) (fun c57 => ?_)
              · try simp (disch := omega) only [nI_ltI, nI_leI, nI_eq, bI_0, Decidable.not_not, lc_lt, lc_gt, lc_ge, lc_le, lc_eq, i64_toInt] at c57
                try simp (disch := omega) only [cv_lt, cv_le, cv_eq, nI_toInt, cv_0] at c57
                first
                | omega
                | refine r_iinc2 hR (nI 1) (by decide) (fun _ h => by first | (cases h; rfl) | exact absurd h (by simp)) dX7_swap_134 ?_
                  try rw [nI_add]
                  refine r_goto hR 44 dX7_swap_137 (by decide) ?_
                  obtain rfl : k = 6 - a := by omega
                  exact ih (a + 1) N _ (by omega) hX h70 h71
              · try simp (disch := omega) only [nI_ltI, nI_leI, nI_eq, bI_0, Decidable.not_not, lc_lt, lc_gt, lc_ge, lc_le, lc_eq, i64_toInt] at c57
                try simp (disch := omega) only [cv_lt, cv_le, cv_eq, nI_toInt, cv_0] at c57
                first
                | omega
                | refine r_aload0 hR dX7_swap_60 ?_
                  refine r_get hR (by first | decide | assumption | (simp only [gcnt_4, gcnt_1, gcnt_2, gcnt_3, gcnt_12, gcnt_13, gcnt_16]; omega)) fl_X7_16 rfl rfl dX7_swap_61 ?_
                  refine r_aload0 hR dX7_swap_64 ?_
                  refine r_get hR (by first | decide | assumption | (simp only [gcnt_4, gcnt_1, gcnt_2, gcnt_3, gcnt_12, gcnt_13, gcnt_16]; omega)) fl_X7_10 rfl rfl dX7_swap_65 ?_
                  refine r_cv1u hR kv_X7_207 (by decide) (t_X1_become (by decide) (by decide) (by decide) hsN w3) (by first | decide | assumption | (simp only [gcnt_4, gcnt_1, gcnt_2, gcnt_3, gcnt_12, gcnt_13, gcnt_16]; omega)) rfl rfl (Nat.le_of_ble_eq_true rfl) dX7_swap_68 ?_
                  refine r_aload0 hR dX7_swap_71 ?_
                  refine r_get hR (by first | decide | assumption | (simp only [gcnt_4, gcnt_1, gcnt_2, gcnt_3, gcnt_12, gcnt_13, gcnt_16]; omega)) fl_X7_16 rfl rfl dX7_swap_72 ?_
                  refine r_get hR (by first | decide | assumption | (simp only [gcnt_4, gcnt_1, gcnt_2, gcnt_3, gcnt_12, gcnt_13, gcnt_16]; omega)) fl_X7_86 rfl rfl dX7_swap_75 ?_
                  refine r_iload2 hR dX7_swap_78 ?_
                  refine r_aload0 hR dX7_swap_79 ?_
                  refine r_get hR (by first | decide | assumption | (simp only [gcnt_4, gcnt_1, gcnt_2, gcnt_3, gcnt_12, gcnt_13, gcnt_16]; omega)) fl_X7_10 rfl rfl dX7_swap_80 ?_
                  refine r_get hR (by first | decide | assumption | (simp only [gcnt_4, gcnt_1, gcnt_2, gcnt_3, gcnt_12, gcnt_13, gcnt_16]; omega)) fl_X7_86 rfl rfl dX7_swap_83 ?_
                  refine r_iload3 hR dX7_swap_86 ?_
                  refine r_iald hR (by first | decide | assumption | (simp only [gcnt_4, gcnt_1, gcnt_2, gcnt_3, gcnt_12, gcnt_13, gcnt_16]; omega)) rfl rfl (by omega) (by decide) dX7_swap_87 ?_
                  rw [put_20, xr (a + 1 + k) (by omega)]
                  refine r_iast hR (by first | decide | assumption | (simp only [gcnt_4, gcnt_1, gcnt_2, gcnt_3, gcnt_12, gcnt_13, gcnt_16]; omega)) (fun _ => rfl) rfl (by omega) (by decide) dX7_swap_88 ?_
                  refine r_aload0 hR dX7_swap_89 ?_
                  refine r_get hR (by first | decide | assumption | (simp only [gcnt_4, gcnt_1, gcnt_2, gcnt_3, gcnt_12, gcnt_13, gcnt_16]; omega)) fl_X7_16 rfl rfl dX7_swap_90 ?_
                  refine r_get hR (by first | decide | assumption | (simp only [gcnt_4, gcnt_1, gcnt_2, gcnt_3, gcnt_12, gcnt_13, gcnt_16]; omega)) fl_X7_86 rfl rfl dX7_swap_93 ?_
                  refine r_iload3 hR dX7_swap_96 ?_
                  refine r_aload0 hR dX7_swap_97 ?_
                  refine r_get hR (by first | decide | assumption | (simp only [gcnt_4, gcnt_1, gcnt_2, gcnt_3, gcnt_12, gcnt_13, gcnt_16]; omega)) fl_X7_10 rfl rfl dX7_swap_98 ?_
                  refine r_get hR (by first | decide | assumption | (simp only [gcnt_4, gcnt_1, gcnt_2, gcnt_3, gcnt_12, gcnt_13, gcnt_16]; omega)) fl_X7_86 rfl rfl dX7_swap_101 ?_
                  refine r_iload2 hR dX7_swap_104 ?_
                  refine r_iald hR (by first | decide | assumption | (simp only [gcnt_4, gcnt_1, gcnt_2, gcnt_3, gcnt_12, gcnt_13, gcnt_16]; omega)) rfl rfl (by omega) (by decide) dX7_swap_105 ?_
                  rw [seti_r, if_neg (by omega), put_20, xr a (by omega)]
                  refine r_iast hR (by first | decide | assumption | (simp only [gcnt_4, gcnt_1, gcnt_2, gcnt_3, gcnt_12, gcnt_13, gcnt_16]; omega)) (fun _ => rfl) rfl (by omega) (by decide) dX7_swap_106 ?_
                  refine r_mem (swp_ab (by omega) (by omega) (by omega)) ?_
                  refine r_aload0 hR dX7_swap_107 ?_
                  refine r_get hR (by first | decide | assumption | (simp only [gcnt_4, gcnt_1, gcnt_2, gcnt_3, gcnt_12, gcnt_13, gcnt_16]; omega)) fl_X7_46 rfl rfl dX7_swap_108 ?_
                  refine r_bipush hR (nI 10) (by decide) dX7_swap_111 ?_
                  refine r_iload2 hR dX7_swap_113 ?_
                  refine r_imul hR dX7_swap_114 ?_
                  try rw [pk_mul]
                  refine r_iload3 hR dX7_swap_115 ?_
                  refine r_iadd hR dX7_swap_116 ?_
                  try rw [nI_add]
                  refine r_aload0 hR dX7_swap_117 ?_
                  refine r_get hR (by first | decide | assumption | (simp only [gcnt_4, gcnt_1, gcnt_2, gcnt_3, gcnt_12, gcnt_13, gcnt_16]; omega)) fl_X7_16 rfl rfl dX7_swap_118 ?_
                  refine r_iload1 hR dX7_swap_121 ?_
                  refine r_cv1v hR kv_X7_161 (by decide) (t_X1_gainIn (by decide) (putSea_P N 1 (swpS (aS A) a (a + 1 + k))) (hwS (by omega)) (by omega) (by have := z0 (by omega); omega)) (by first | decide | assumption | (simp only [gcnt_4, gcnt_1, gcnt_2, gcnt_3, gcnt_12, gcnt_13, gcnt_16]; omega)) rfl rfl (Nat.le_of_ble_eq_true rfl) dX7_swap_122 ?_
                  refine r_cv2u hR kv_X7_211 (by decide) (t_X0_weigh (m := nI (swpB (aS A) n a (swpA (aS A) n a) k).2) (by rw [put_7, put_7]; exact h71)) (by first | decide | assumption | (simp only [gcnt_4, gcnt_1, gcnt_2, gcnt_3, gcnt_12, gcnt_13, gcnt_16]; omega)) rfl rfl (Nat.le_of_ble_eq_true rfl) dX7_swap_125 ?_
                  refine r_iinc3 hR (nI 1) (by decide) (fun _ h => by first | (cases h; rfl) | exact absurd h (by simp)) dX7_swap_128 ?_
                  try rw [nI_add]
                  refine r_goto hR 54 dX7_swap_131 (by decide) ?_
                  omega
            | succ j2 ih2 =>
              intro k N hk2 hX h70 h71
              have hsN := seaP_eqX hX w3 hc.1
              obtain ⟨x0, x2, x3, x4, xr, xth⟩ := id hsN
              have z0 : k < 6 - a → (swpS (aS A) a (a + 1 + k)) 0 = aS A 0 := fun _ => by unfold swpS; rw [if_neg (by omega), if_neg (by omega)]
              have z3 : k < 6 - a → (swpS (aS A) a (a + 1 + k)) 3 = aS A 3 := fun _ => by unfold swpS; rw [if_neg (by omega), if_neg (by omega)]
              have hwS : k < 6 - a → wfS (swpS (aS A) a (a + 1 + k)) := fun z => wf_swp hwf (by omega) (by omega) (by omega)
              refine r_iload3 hR dX7_swap_54 ?_
              refine r_bipush hR (nI 7) (by decide) dX7_swap_55 ?_
              refine r_icmp_ge hR 134 dX7_swap_57 (by decide) (fun c57 => ?_) (fun c57 => ?_)
              · try simp (disch := omega) only [nI_ltI, nI_leI, nI_eq, bI_0, Decidable.not_not, lc_lt, lc_gt, lc_ge, lc_le, lc_eq, i64_toInt] at c57
                try simp (disch := omega) only [cv_lt, cv_le, cv_eq, nI_toInt, cv_0] at c57
                first
                | omega
                | refine r_iinc2 hR (nI 1) (by decide) (fun _ h => by first | (cases h; rfl) | exact absurd h (by simp)) dX7_swap_134 ?_
                  try rw [nI_add]
                  refine r_goto hR 44 dX7_swap_137 (by decide) ?_
                  omega
              · try simp (disch := omega) only [nI_ltI, nI_leI, nI_eq, bI_0, Decidable.not_not, lc_lt, lc_gt, lc_ge, lc_le, lc_eq, i64_toInt] at c57
                try simp (disch := omega) only [cv_lt, cv_le, cv_eq, nI_toInt, cv_0] at c57
                first
                | omega
                | refine r_aload0 hR dX7_swap_60 ?_
                  refine r_get hR (by first | decide | assumption | (simp only [gcnt_4, gcnt_1, gcnt_2, gcnt_3, gcnt_12, gcnt_13, gcnt_16]; omega)) fl_X7_16 rfl rfl dX7_swap_61 ?_
                  refine r_aload0 hR dX7_swap_64 ?_
                  refine r_get hR (by first | decide | assumption | (simp only [gcnt_4, gcnt_1, gcnt_2, gcnt_3, gcnt_12, gcnt_13, gcnt_16]; omega)) fl_X7_10 rfl rfl dX7_swap_65 ?_
                  refine r_cv1u hR kv_X7_207 (by decide) (t_X1_become (by decide) (by decide) (by decide) hsN w3) (by first | decide | assumption | (simp only [gcnt_4, gcnt_1, gcnt_2, gcnt_3, gcnt_12, gcnt_13, gcnt_16]; omega)) rfl rfl (Nat.le_of_ble_eq_true rfl) dX7_swap_68 ?_
                  refine r_aload0 hR dX7_swap_71 ?_
                  refine r_get hR (by first | decide | assumption | (simp only [gcnt_4, gcnt_1, gcnt_2, gcnt_3, gcnt_12, gcnt_13, gcnt_16]; omega)) fl_X7_16 rfl rfl dX7_swap_72 ?_
                  refine r_get hR (by first | decide | assumption | (simp only [gcnt_4, gcnt_1, gcnt_2, gcnt_3, gcnt_12, gcnt_13, gcnt_16]; omega)) fl_X7_86 rfl rfl dX7_swap_75 ?_
                  refine r_iload2 hR dX7_swap_78 ?_
                  refine r_aload0 hR dX7_swap_79 ?_
                  refine r_get hR (by first | decide | assumption | (simp only [gcnt_4, gcnt_1, gcnt_2, gcnt_3, gcnt_12, gcnt_13, gcnt_16]; omega)) fl_X7_10 rfl rfl dX7_swap_80 ?_
                  refine r_get hR (by first | decide | assumption | (simp only [gcnt_4, gcnt_1, gcnt_2, gcnt_3, gcnt_12, gcnt_13, gcnt_16]; omega)) fl_X7_86 rfl rfl dX7_swap_83 ?_
                  refine r_iload3 hR dX7_swap_86 ?_
                  refine r_iald hR (by first | decide | assumption | (simp only [gcnt_4, gcnt_1, gcnt_2, gcnt_3, gcnt_12, gcnt_13, gcnt_16]; omega)) rfl rfl (by omega) (by decide) dX7_swap_87 ?_
                  rw [put_20, xr (a + 1 + k) (by omega)]
                  refine r_iast hR (by first | decide | assumption | (simp only [gcnt_4, gcnt_1, gcnt_2, gcnt_3, gcnt_12, gcnt_13, gcnt_16]; omega)) (fun _ => rfl) rfl (by omega) (by decide) dX7_swap_88 ?_
                  refine r_aload0 hR dX7_swap_89 ?_
                  refine r_get hR (by first | decide | assumption | (simp only [gcnt_4, gcnt_1, gcnt_2, gcnt_3, gcnt_12, gcnt_13, gcnt_16]; omega)) fl_X7_16 rfl rfl dX7_swap_90 ?_
                  refine r_get hR (by first | decide | assumption | (simp only [gcnt_4, gcnt_1, gcnt_2, gcnt_3, gcnt_12, gcnt_13, gcnt_16]; omega)) fl_X7_86 rfl rfl dX7_swap_93 ?_
                  refine r_iload3 hR dX7_swap_96 ?_
                  refine r_aload0 hR dX7_swap_97 ?_
                  refine r_get hR (by first | decide | assumption | (simp only [gcnt_4, gcnt_1, gcnt_2, gcnt_3, gcnt_12, gcnt_13, gcnt_16]; omega)) fl_X7_10 rfl rfl dX7_swap_98 ?_
                  refine r_get hR (by first | decide | assumption | (simp only [gcnt_4, gcnt_1, gcnt_2, gcnt_3, gcnt_12, gcnt_13, gcnt_16]; omega)) fl_X7_86 rfl rfl dX7_swap_101 ?_
                  refine r_iload2 hR dX7_swap_104 ?_
                  refine r_iald hR (by first | decide | assumption | (simp only [gcnt_4, gcnt_1, gcnt_2, gcnt_3, gcnt_12, gcnt_13, gcnt_16]; omega)) rfl rfl (by omega) (by decide) dX7_swap_105 ?_
                  rw [seti_r, if_neg (by omega), put_20, xr a (by omega)]
                  refine r_iast hR (by first | decide | assumption | (simp only [gcnt_4, gcnt_1, gcnt_2, gcnt_3, gcnt_12, gcnt_13, gcnt_16]; omega)) (fun _ => rfl) rfl (by omega) (by decide) dX7_swap_106 ?_
                  refine r_mem (swp_ab (by omega) (by omega) (by omega)) ?_
                  refine r_aload0 hR dX7_swap_107 ?_
                  refine r_get hR (by first | decide | assumption | (simp only [gcnt_4, gcnt_1, gcnt_2, gcnt_3, gcnt_12, gcnt_13, gcnt_16]; omega)) fl_X7_46 rfl rfl dX7_swap_108 ?_
                  refine r_bipush hR (nI 10) (by decide) dX7_swap_111 ?_
                  refine r_iload2 hR dX7_swap_113 ?_
                  refine r_imul hR dX7_swap_114 ?_
                  try rw [pk_mul]
                  refine r_iload3 hR dX7_swap_115 ?_
                  refine r_iadd hR dX7_swap_116 ?_
                  try rw [nI_add]
                  refine r_aload0 hR dX7_swap_117 ?_
                  refine r_get hR (by first | decide | assumption | (simp only [gcnt_4, gcnt_1, gcnt_2, gcnt_3, gcnt_12, gcnt_13, gcnt_16]; omega)) fl_X7_16 rfl rfl dX7_swap_118 ?_
                  refine r_iload1 hR dX7_swap_121 ?_
                  refine r_cv1v hR kv_X7_161 (by decide) (t_X1_gainIn (by decide) (putSea_P N 1 (swpS (aS A) a (a + 1 + k))) (hwS (by omega)) (by omega) (by have := z0 (by omega); omega)) (by first | decide | assumption | (simp only [gcnt_4, gcnt_1, gcnt_2, gcnt_3, gcnt_12, gcnt_13, gcnt_16]; omega)) rfl rfl (Nat.le_of_ble_eq_true rfl) dX7_swap_122 ?_
                  refine r_cv2u hR kv_X7_211 (by decide) (t_X0_weigh (m := nI (swpB (aS A) n a (swpA (aS A) n a) k).2) (by rw [put_7, put_7]; exact h71)) (by first | decide | assumption | (simp only [gcnt_4, gcnt_1, gcnt_2, gcnt_3, gcnt_12, gcnt_13, gcnt_16]; omega)) rfl rfl (Nat.le_of_ble_eq_true rfl) dX7_swap_125 ?_
                  refine r_iinc3 hR (nI 1) (by decide) (fun _ h => by first | (cases h; rfl) | exact absurd h (by simp)) dX7_swap_128 ?_
                  try rw [nI_add]
                  refine r_goto hR 54 dX7_swap_131 (by decide) ?_
                  have hX2 : eqX M (putSea (putSea N 1 (swpS (aS A) a (a + 1 + k))) 1 (dayN n (swpS (aS A) a (a + 1 + k)))) := hX.tr ((eqX_put1 N _ (by rw [z3 (by omega)]; omega)).tr (eqX_put1 _ _ (by rw [dayN_3, z3 (by omega)]; omega)))
                  have hok := weigh_ok (v := 10 * a + (a + 1 + k)) (g := gainN n (swpS (aS A) a (a + 1 + k))) hX2 (by rw [put_7, put_7]; exact h70) (by rw [put_7, put_7]; exact h71) (swpB_lt hwf (by omega) (by omega) (swpA_lt hwf (by omega) a (by omega)) k (by omega)) (by have := gain_le (hwS (by omega)) (n := n) (by have := z0 (by omega); omega); omega)
                  exact ih2 (k + 1) _ (by omega) hok.1 hok.2.1 hok.2.2.1
          refine r_iload2 hR dX7_swap_44 ?_
          refine r_bipush hR (nI 7) (by decide) dX7_swap_45 ?_
          refine r_icmp_ge hR 140 dX7_swap_47 (by decide) (fun c47 => ?_) (fun c47 => ?_)
          · try simp (disch := omega) only [nI_ltI, nI_leI, nI_eq, bI_0, Decidable.not_not, lc_lt, lc_gt, lc_ge, lc_le, lc_eq, i64_toInt] at c47
            try simp (disch := omega) only [cv_lt, cv_le, cv_eq, nI_toInt, cv_0] at c47
            first
            | omega
            | refine r_aload0 hR dX7_swap_140 ?_
              refine r_get hR (by first | decide | assumption | (simp only [gcnt_4, gcnt_1, gcnt_2, gcnt_3, gcnt_12, gcnt_13, gcnt_16]; omega)) fl_X7_46 rfl rfl dX7_swap_141 ?_
              refine r_get hR (by first | decide | assumption | (simp only [gcnt_4, gcnt_1, gcnt_2, gcnt_3, gcnt_12, gcnt_13, gcnt_16]; omega)) fl_X7_215 rfl rfl dX7_swap_144 ?_
              rw [h70]
              refine r_iconst hR (-1) (by decide) dX7_swap_147 ?_
              refine r_icmp_ne hR 160 dX7_swap_148 (by decide) (fun c148 => ?_) (fun c148 => ?_)
              · try simp (disch := omega) only [nI_ltI, nI_leI, nI_eq, bI_0, Decidable.not_not, lc_lt, lc_gt, lc_ge, lc_le, lc_eq, i64_toInt] at c148
                try simp (disch := omega) only [cv_lt, cv_le, cv_eq, nI_toInt, cv_0] at c148
                first
                | omega
                | refine r_aload0 hR dX7_swap_160 ?_
                  refine r_get hR (by first | decide | assumption | (simp only [gcnt_4, gcnt_1, gcnt_2, gcnt_3, gcnt_12, gcnt_13, gcnt_16]; omega)) fl_X7_46 rfl rfl dX7_swap_161 ?_
                  refine r_get hR (by first | decide | assumption | (simp only [gcnt_4, gcnt_1, gcnt_2, gcnt_3, gcnt_12, gcnt_13, gcnt_16]; omega)) fl_X7_215 rfl rfl dX7_swap_164 ?_
                  rw [h70]
                  refine r_iret hR dX7_swap_167 ?_
                  obtain rfl : a = 7 := by omega
                  first
                  | (refine Qc_eqX (A := A) hX w3 hK8 hc ?_
                     rw [e, if_neg (fun q => c148 (by rw [q]))])
                  | (refine Qc_fndX (A := A) hX w3 hK8 hc (by decide) ?_
                     rw [e, if_pos (by rw [cv_eq]; exact c148)])
              · try simp (disch := omega) only [nI_ltI, nI_leI, nI_eq, bI_0, Decidable.not_not, lc_lt, lc_gt, lc_ge, lc_le, lc_eq, i64_toInt] at c148
                try simp (disch := omega) only [cv_lt, cv_le, cv_eq, nI_toInt, cv_0] at c148
                first
                | omega
                | refine r_aload0 hR dX7_swap_151 ?_
                  refine r_ldc hR ct_X7_108 dX7_swap_152 ?_
                  refine r_cv1v hR kv_X7_82 (by decide) (t_X7_findingC (n := 3) (by decide) (by decide)) (by first | decide | assumption | (simp only [gcnt_4, gcnt_1, gcnt_2, gcnt_3, gcnt_12, gcnt_13, gcnt_16]; omega)) rfl rfl (Nat.le_of_ble_eq_true rfl) dX7_swap_154 ?_
                  refine r_goto hR 167 dX7_swap_157 (by decide) ?_
                  refine r_iret hR dX7_swap_167 ?_
                  obtain rfl : a = 7 := by omega
                  first
                  | (refine Qc_eqX (A := A) hX w3 hK8 hc ?_
                     rw [e, if_neg (fun q => c148 (by rw [q]))])
                  | (refine Qc_fndX (A := A) hX w3 hK8 hc (by decide) ?_
                     rw [e, if_pos (by rw [cv_eq]; exact c148)])
          · try simp (disch := omega) only [nI_ltI, nI_leI, nI_eq, bI_0, Decidable.not_not, lc_lt, lc_gt, lc_ge, lc_le, lc_eq, i64_toInt] at c47
            try simp (disch := omega) only [cv_lt, cv_le, cv_eq, nI_toInt, cv_0] at c47
            first
            | omega
            | refine r_iload2 hR dX7_swap_50 ?_
              refine r_iconst hR (nI 1) (by decide) dX7_swap_51 ?_
              refine r_iadd hR dX7_swap_52 ?_
              try rw [nI_add]
              refine r_istore3 hR (fun _ h => by first | (cases h; rfl) | exact absurd h (by simp)) dX7_swap_53 ?_
              exact L2 (6 - a) 0 N (by omega) hX h70 h71
      refine r_aload0 hR dX7_swap_16 ?_
      refine r_get hR (by first | decide | assumption | (simp only [gcnt_4, gcnt_1, gcnt_2, gcnt_3, gcnt_12, gcnt_13, gcnt_16]; omega)) fl_X7_16 rfl rfl dX7_swap_17 ?_
      try simp only [s0, s2, s3, s4]
      refine r_aload0 hR dX7_swap_20 ?_
      refine r_get hR (by first | decide | assumption | (simp only [gcnt_4, gcnt_1, gcnt_2, gcnt_3, gcnt_12, gcnt_13, gcnt_16]; omega)) fl_X7_10 rfl rfl dX7_swap_21 ?_
      try simp only [s0, s2, s3, s4]
      refine r_cv1u hR kv_X7_207 (by decide) (t_X1_become (by decide) (by decide) (by decide) hc.1 w3) (by first | decide | assumption | (simp only [gcnt_4, gcnt_1, gcnt_2, gcnt_3, gcnt_12, gcnt_13, gcnt_16]; omega)) rfl rfl (Nat.le_of_ble_eq_true rfl) dX7_swap_24 ?_
      refine r_aload0 hR dX7_swap_27 ?_
      refine r_get hR (by first | decide | assumption | (simp only [gcnt_4, gcnt_1, gcnt_2, gcnt_3, gcnt_12, gcnt_13, gcnt_16]; omega)) fl_X7_46 rfl rfl dX7_swap_28 ?_
      try simp only [s0, s2, s3, s4]
      refine r_aload0 hR dX7_swap_31 ?_
      refine r_get hR (by first | decide | assumption | (simp only [gcnt_4, gcnt_1, gcnt_2, gcnt_3, gcnt_12, gcnt_13, gcnt_16]; omega)) fl_X7_16 rfl rfl dX7_swap_32 ?_
      try simp only [s0, s2, s3, s4]
      refine r_iload1 hR dX7_swap_35 ?_
      refine r_cv1v hR kv_X7_161 (by decide) (t_X1_gainIn (by decide) (putSea_P M 1 (aS A)) hwf (by omega) (by omega)) (by first | decide | assumption | (simp only [gcnt_4, gcnt_1, gcnt_2, gcnt_3, gcnt_12, gcnt_13, gcnt_16]; omega)) rfl rfl (Nat.le_of_ble_eq_true rfl) dX7_swap_36 ?_
      refine r_cv1u hR kv_X7_210 (by decide) (t_X0_begin) (by first | decide | assumption | (simp only [gcnt_4, gcnt_1, gcnt_2, gcnt_3, gcnt_12, gcnt_13, gcnt_16]; omega)) rfl rfl (Nat.le_of_ble_eq_true rfl) dX7_swap_39 ?_
      refine r_iconst hR (nI 0) (by decide) dX7_swap_42 ?_
      refine r_istore2 hR (fun _ h => by first | (cases h; rfl) | exact absurd h (by simp)) dX7_swap_43 ?_
      exact L1 7 0 _ _ rfl ((((eqX_put1 M _ w3).tr (eqX_put1 _ _ (by rw [dayN_3]; omega))).tr (eqX_seti _ (by unfold scr; omega))).tr (eqX_seti _ (by unfold scr; omega))) (by simp [seti_r, swpA]) (by simp [seti_r, swpA, gainN])
  · try simp (disch := omega) only [nI_ltI, nI_leI, nI_eq, bI_0, Decidable.not_not, lc_lt, lc_gt, lc_ge, lc_le, lc_eq, i64_toInt] at c6
    try simp (disch := omega) only [cv_lt, cv_le, cv_eq, nI_toInt, cv_0] at c6
    first
    | omega
    | refine r_aload0 hR dX7_swap_9 ?_
      refine r_ldc hR ct_X7_81 dX7_swap_10 ?_
      refine r_cv1v hR kv_X7_82 (by decide) (t_X7_findingC (n := 0) (by decide) (by decide)) (by first | decide | assumption | (simp only [gcnt_4, gcnt_1, gcnt_2, gcnt_3, gcnt_12, gcnt_13, gcnt_16]; omega)) rfl rfl (Nat.le_of_ble_eq_true rfl) dX7_swap_12 ?_
      refine r_iret hR dX7_swap_15 ?_
      refine Qc_fnd hc (by decide) ?_
      unfold oSwap
      dsimp only [okI, okT]
      (repeat' split) <;> first | rfl | omega

set_option maxHeartbeats 4000000 in
set_option maxRecDepth 100000 in
theorem t_X7_missed {G : gG} {M : gM} {A : gA} {x : Int32} (hc : clsP M A) (hw : wfA A) : Ct G mX7_missed 6 [.ref (ad G 0 0), .int x] M (Qc M (oMissed A x)) := by
  obtain ⟨hwf, hday, hwk, hk2, hl, hT, hsh⟩ := id hw
  obtain ⟨w0, w1, w2, w3, wr, wt⟩ := id hwf
  obtain ⟨s0, s2, s3, s4, sr, sth⟩ := id hc.1
  have hK8 : ak A = 1 → aK A 3 ≤ 8 := fun z => (hwk z).1.2.2.2.1
  refine Ct.of (by decide +kernel) (k := 1) (ls0 := [some (.ref (ad G 0 0)), some (.int x), none]) rfl rfl (fun _ _ => trivial) ?_
  intro P hR
  refine r_iload1 hR dX7_missed_0 ?_
  refine r_bipush hR (nI 30) (by decide) dX7_missed_1 ?_
  refine r_cs2v hR ks_X7_157 (by decide) (t_X7_isSpan) (Nat.le_of_ble_eq_true rfl) dX7_missed_3 ?_
  refine r_if_ne hR 16 dX7_missed_6 (by decide) (fun c6 => ?_) (fun c6 => ?_)
  · try simp (disch := omega) only [nI_ltI, nI_leI, nI_eq, bI_0, Decidable.not_not, lc_lt, lc_gt, lc_ge, lc_le, lc_eq, i64_toInt] at c6
    try simp (disch := omega) only [cv_lt, cv_le, cv_eq, nI_toInt, cv_0] at c6
    first
    | omega
    | obtain ⟨n, hn, rfl⟩ := of_in (x := x) (N := 30) (by omega)
      simp (disch := omega) only [nI_toInt] at c6
      have e : oMissed A (nI n) = if (misB (aS A) n 8).1 = -1 then fnd A 3 else ((misB (aS A) n 8).1, A) := by
        unfold oMissed
        rw [if_pos (by simp (disch := omega) only [okI, okT, nI_toInt]; omega)]
        simp (disch := omega) only [uN_nI]
      have L : ∀ (j i : Nat) (N : gM), i + j = 8 → eqX M N → pkM N (misB (aS A) n i) → P 27 [some (.ref (ad G 0 0)), some (.int (nI n)), some (.int (nI i))] [] N := by
        intro j
        induction j with
        | zero =>
          intro i N hij hX hp
          have hsN := seaP_eqX hX w3 hc.1
          obtain ⟨x0, x2, x3, x4, xr, xth⟩ := id hsN
          have hmk : i < 8 → mkS (aS A 2) i 1 < 256 := fun z => (sick_t (aS A 2) w2 i z).2.2.2.2
          have hwS : i < 8 → wfS (va_up (aS A) 2 (mkS (aS A 2) i 1)) := fun z => wf_sick hwf (hmk z)
          refine r_iload2 hR dX7_missed_27 ?_
          refine r_bipush hR (nI 8) (by decide) dX7_missed_28 ?_
          refine r_icmp_ge hR 87 dX7_missed_30 (by decide) (fun c30 => ?_) (fun c30 => ?_)
          · try simp (disch := omega) only [nI_ltI, nI_leI, nI_eq, bI_0, Decidable.not_not, lc_lt, lc_gt, lc_ge, lc_le, lc_eq, i64_toInt] at c30
            try simp (disch := omega) only [cv_lt, cv_le, cv_eq, nI_toInt, cv_0] at c30
            first
            | omega
            | refine r_aload0 hR dX7_missed_87 ?_
              refine r_get hR (by first | decide | assumption | (simp only [gcnt_4, gcnt_1, gcnt_2, gcnt_3, gcnt_12, gcnt_13, gcnt_16]; omega)) fl_X7_46 rfl rfl dX7_missed_88 ?_
              refine r_get hR (by first | decide | assumption | (simp only [gcnt_4, gcnt_1, gcnt_2, gcnt_3, gcnt_12, gcnt_13, gcnt_16]; omega)) fl_X7_215 rfl rfl dX7_missed_91 ?_
              rw [hp.1]
              refine r_iconst hR (-1) (by decide) dX7_missed_94 ?_
              refine r_icmp_ne hR 107 dX7_missed_95 (by decide) (fun c95 => ?_) (fun c95 => ?_)
              · try simp (disch := omega) only [nI_ltI, nI_leI, nI_eq, bI_0, Decidable.not_not, lc_lt, lc_gt, lc_ge, lc_le, lc_eq, i64_toInt] at c95
                try simp (disch := omega) only [cv_lt, cv_le, cv_eq, nI_toInt, cv_0] at c95
                first
                | omega
                | refine r_aload0 hR dX7_missed_107 ?_
                  refine r_get hR (by first | decide | assumption | (simp only [gcnt_4, gcnt_1, gcnt_2, gcnt_3, gcnt_12, gcnt_13, gcnt_16]; omega)) fl_X7_46 rfl rfl dX7_missed_108 ?_
                  refine r_get hR (by first | decide | assumption | (simp only [gcnt_4, gcnt_1, gcnt_2, gcnt_3, gcnt_12, gcnt_13, gcnt_16]; omega)) fl_X7_215 rfl rfl dX7_missed_111 ?_
                  rw [hp.1]
                  refine r_iret hR dX7_missed_114 ?_
                  obtain rfl : i = 8 := by omega
                  first
                  | (refine Qc_eqX (A := A) hX w3 hK8 hc ?_
                     rw [e, if_neg (fun q => c95 (by rw [q]))])
                  | (refine Qc_fndX (A := A) hX w3 hK8 hc (by decide) ?_
                     rw [e, if_pos (by rw [cv_eq]; exact c95)])
              · try simp (disch := omega) only [nI_ltI, nI_leI, nI_eq, bI_0, Decidable.not_not, lc_lt, lc_gt, lc_ge, lc_le, lc_eq, i64_toInt] at c95
                try simp (disch := omega) only [cv_lt, cv_le, cv_eq, nI_toInt, cv_0] at c95
                first
                | omega
                | refine r_aload0 hR dX7_missed_98 ?_
                  refine r_ldc hR ct_X7_108 dX7_missed_99 ?_
                  refine r_cv1v hR kv_X7_82 (by decide) (t_X7_findingC (n := 3) (by decide) (by decide)) (by first | decide | assumption | (simp only [gcnt_4, gcnt_1, gcnt_2, gcnt_3, gcnt_12, gcnt_13, gcnt_16]; omega)) rfl rfl (Nat.le_of_ble_eq_true rfl) dX7_missed_101 ?_
                  refine r_goto hR 114 dX7_missed_104 (by decide) ?_
                  refine r_iret hR dX7_missed_114 ?_
                  obtain rfl : i = 8 := by omega
                  first
                  | (refine Qc_eqX (A := A) hX w3 hK8 hc ?_
                     rw [e, if_neg (fun q => c95 (by rw [q]))])
                  | (refine Qc_fndX (A := A) hX w3 hK8 hc (by decide) ?_
                     rw [e, if_pos (by rw [cv_eq]; exact c95)])
          · try simp (disch := omega) only [nI_ltI, nI_leI, nI_eq, bI_0, Decidable.not_not, lc_lt, lc_gt, lc_ge, lc_le, lc_eq, i64_toInt] at c30
            try simp (disch := omega) only [cv_lt, cv_le, cv_eq, nI_toInt, cv_0] at c30
            first
            | omega
            | refine r_aload0 hR dX7_missed_33 ?_
              refine r_get hR (by first | decide | assumption | (simp only [gcnt_4, gcnt_1, gcnt_2, gcnt_3, gcnt_12, gcnt_13, gcnt_16]; omega)) fl_X7_10 rfl rfl dX7_missed_34 ?_
              refine r_iload2 hR dX7_missed_37 ?_
              refine r_cv1v hR kv_X7_89 (by decide) (t_X1_isSick (by decide) hsN w2 (by omega)) (by first | decide | assumption | (simp only [gcnt_4, gcnt_1, gcnt_2, gcnt_3, gcnt_12, gcnt_13, gcnt_16]; omega)) rfl rfl (Nat.le_of_ble_eq_true rfl) dX7_missed_38 ?_
              refine r_if_ne hR 81 dX7_missed_41 (by decide) (fun c41 => ?_) (fun c41 => ?_)
              · try simp (disch := omega) only [nI_ltI, nI_leI, nI_eq, bI_0, Decidable.not_not, lc_lt, lc_gt, lc_ge, lc_le, lc_eq, i64_toInt] at c41
                try simp (disch := omega) only [cv_lt, cv_le, cv_eq, nI_toInt, cv_0] at c41
                first
                | omega
                | refine r_iinc2 hR (nI 1) (by decide) (fun _ h => by first | (cases h; rfl) | exact absurd h (by simp)) dX7_missed_81 ?_
                  try rw [nI_add]
                  refine r_goto hR 27 dX7_missed_84 (by decide) ?_
                  omega
              · try simp (disch := omega) only [nI_ltI, nI_leI, nI_eq, bI_0, Decidable.not_not, lc_lt, lc_gt, lc_ge, lc_le, lc_eq, i64_toInt] at c41
                try simp (disch := omega) only [cv_lt, cv_le, cv_eq, nI_toInt, cv_0] at c41
                first
                | omega
                | refine r_aload0 hR dX7_missed_44 ?_
                  refine r_get hR (by first | decide | assumption | (simp only [gcnt_4, gcnt_1, gcnt_2, gcnt_3, gcnt_12, gcnt_13, gcnt_16]; omega)) fl_X7_16 rfl rfl dX7_missed_45 ?_
                  refine r_aload0 hR dX7_missed_48 ?_
                  refine r_get hR (by first | decide | assumption | (simp only [gcnt_4, gcnt_1, gcnt_2, gcnt_3, gcnt_12, gcnt_13, gcnt_16]; omega)) fl_X7_10 rfl rfl dX7_missed_49 ?_
                  refine r_cv1u hR kv_X7_207 (by decide) (t_X1_become (by decide) (by decide) (by decide) hsN w3) (by first | decide | assumption | (simp only [gcnt_4, gcnt_1, gcnt_2, gcnt_3, gcnt_12, gcnt_13, gcnt_16]; omega)) rfl rfl (Nat.le_of_ble_eq_true rfl) dX7_missed_52 ?_
                  refine r_aload0 hR dX7_missed_55 ?_
                  refine r_get hR (by first | decide | assumption | (simp only [gcnt_4, gcnt_1, gcnt_2, gcnt_3, gcnt_12, gcnt_13, gcnt_16]; omega)) fl_X7_16 rfl rfl dX7_missed_56 ?_
                  refine r_iload2 hR dX7_missed_59 ?_
                  refine r_iconst hR (nI 1) (by decide) dX7_missed_60 ?_
                  refine r_cv2u hR kv_X7_93 (by decide) (t_X1_makeSick (by decide) (putSea_P N 1 (aS A)) w2 (by omega) (by decide)) (by first | decide | assumption | (simp only [gcnt_4, gcnt_1, gcnt_2, gcnt_3, gcnt_12, gcnt_13, gcnt_16]; omega)) rfl rfl (Nat.le_of_ble_eq_true rfl) dX7_missed_61 ?_
                  refine r_aload0 hR dX7_missed_64 ?_
                  refine r_get hR (by first | decide | assumption | (simp only [gcnt_4, gcnt_1, gcnt_2, gcnt_3, gcnt_12, gcnt_13, gcnt_16]; omega)) fl_X7_46 rfl rfl dX7_missed_65 ?_
                  refine r_iload2 hR dX7_missed_68 ?_
                  refine r_aload0 hR dX7_missed_69 ?_
                  refine r_get hR (by first | decide | assumption | (simp only [gcnt_4, gcnt_1, gcnt_2, gcnt_3, gcnt_12, gcnt_13, gcnt_16]; omega)) fl_X7_16 rfl rfl dX7_missed_70 ?_
                  refine r_iload1 hR dX7_missed_73 ?_
                  refine r_cv1v hR kv_X7_161 (by decide) (t_X1_gainIn (by decide) (putSea_P (putSea N 1 (aS A)) 1 (va_up (aS A) 2 (mkS (aS A 2) i 1))) (hwS (by omega)) (by omega) (by show aS A 0 + n < 20000; omega)) (by first | decide | assumption | (simp only [gcnt_4, gcnt_1, gcnt_2, gcnt_3, gcnt_12, gcnt_13, gcnt_16]; omega)) rfl rfl (Nat.le_of_ble_eq_true rfl) dX7_missed_74 ?_
                  refine r_ineg hR dX7_missed_77 ?_
                  refine r_cv2u hR kv_X7_211 (by decide) (t_X0_weigh rfl) (by first | decide | assumption | (simp only [gcnt_4, gcnt_1, gcnt_2, gcnt_3, gcnt_12, gcnt_13, gcnt_16]; omega)) rfl rfl (Nat.le_of_ble_eq_true rfl) dX7_missed_78 ?_
                  refine r_iinc2 hR (nI 1) (by decide) (fun _ h => by first | (cases h; rfl) | exact absurd h (by simp)) dX7_missed_81 ?_
                  try rw [nI_add]
                  refine r_goto hR 27 dX7_missed_84 (by decide) ?_
                  omega
        | succ j ih =>
          intro i N hij hX hp
          have hsN := seaP_eqX hX w3 hc.1
          obtain ⟨x0, x2, x3, x4, xr, xth⟩ := id hsN
          have hmk : i < 8 → mkS (aS A 2) i 1 < 256 := fun z => (sick_t (aS A 2) w2 i z).2.2.2.2
          have hwS : i < 8 → wfS (va_up (aS A) 2 (mkS (aS A 2) i 1)) := fun z => wf_sick hwf (hmk z)
          refine r_iload2 hR dX7_missed_27 ?_
          refine r_bipush hR (nI 8) (by decide) dX7_missed_28 ?_
          refine r_icmp_ge hR 87 dX7_missed_30 (by decide) (fun c30 => ?_) (fun c30 => ?_)
          · try simp (disch := omega) only [nI_ltI, nI_leI, nI_eq, bI_0, Decidable.not_not, lc_lt, lc_gt, lc_ge, lc_le, lc_eq, i64_toInt] at c30
            try simp (disch := omega) only [cv_lt, cv_le, cv_eq, nI_toInt, cv_0] at c30
            first
            | omega
            | refine r_aload0 hR dX7_missed_87 ?_
              refine r_get hR (by first | decide | assumption | (simp only [gcnt_4, gcnt_1, gcnt_2, gcnt_3, gcnt_12, gcnt_13, gcnt_16]; omega)) fl_X7_46 rfl rfl dX7_missed_88 ?_
              refine r_get hR (by first | decide | assumption | (simp only [gcnt_4, gcnt_1, gcnt_2, gcnt_3, gcnt_12, gcnt_13, gcnt_16]; omega)) fl_X7_215 rfl rfl dX7_missed_91 ?_
              rw [hp.1]
              refine r_iconst hR (-1) (by decide) dX7_missed_94 ?_
              refine r_icmp_ne hR 107 dX7_missed_95 (by decide) (fun c95 => ?_) (fun c95 => ?_)
              · try simp (disch := omega) only [nI_ltI, nI_leI, nI_eq, bI_0, Decidable.not_not, lc_lt, lc_gt, lc_ge, lc_le, lc_eq, i64_toInt] at c95
                try simp (disch := omega) only [cv_lt, cv_le, cv_eq, nI_toInt, cv_0] at c95
                first
                | omega
                | refine r_aload0 hR dX7_missed_107 ?_
                  refine r_get hR (by first | decide | assumption | (simp only [gcnt_4, gcnt_1, gcnt_2, gcnt_3, gcnt_12, gcnt_13, gcnt_16]; omega)) fl_X7_46 rfl rfl dX7_missed_108 ?_
                  refine r_get hR (by first | decide | assumption | (simp only [gcnt_4, gcnt_1, gcnt_2, gcnt_3, gcnt_12, gcnt_13, gcnt_16]; omega)) fl_X7_215 rfl rfl dX7_missed_111 ?_
                  rw [hp.1]
                  refine r_iret hR dX7_missed_114 ?_
                  obtain rfl : i = 8 := by omega
                  first
                  | (refine Qc_eqX (A := A) hX w3 hK8 hc ?_
                     rw [e, if_neg (fun q => c95 (by rw [q]))])
                  | (refine Qc_fndX (A := A) hX w3 hK8 hc (by decide) ?_
                     rw [e, if_pos (by rw [cv_eq]; exact c95)])
              · try simp (disch := omega) only [nI_ltI, nI_leI, nI_eq, bI_0, Decidable.not_not, lc_lt, lc_gt, lc_ge, lc_le, lc_eq, i64_toInt] at c95
                try simp (disch := omega) only [cv_lt, cv_le, cv_eq, nI_toInt, cv_0] at c95
                first
                | omega
                | refine r_aload0 hR dX7_missed_98 ?_
                  refine r_ldc hR ct_X7_108 dX7_missed_99 ?_
                  refine r_cv1v hR kv_X7_82 (by decide) (t_X7_findingC (n := 3) (by decide) (by decide)) (by first | decide | assumption | (simp only [gcnt_4, gcnt_1, gcnt_2, gcnt_3, gcnt_12, gcnt_13, gcnt_16]; omega)) rfl rfl (Nat.le_of_ble_eq_true rfl) dX7_missed_101 ?_
                  refine r_goto hR 114 dX7_missed_104 (by decide) ?_
                  refine r_iret hR dX7_missed_114 ?_
                  obtain rfl : i = 8 := by omega
                  first
                  | (refine Qc_eqX (A := A) hX w3 hK8 hc ?_
                     rw [e, if_neg (fun q => c95 (by rw [q]))])
                  | (refine Qc_fndX (A := A) hX w3 hK8 hc (by decide) ?_
                     rw [e, if_pos (by rw [cv_eq]; exact c95)])
          · try simp (disch := omega) only [nI_ltI, nI_leI, nI_eq, bI_0, Decidable.not_not, lc_lt, lc_gt, lc_ge, lc_le, lc_eq, i64_toInt] at c30
            try simp (disch := omega) only [cv_lt, cv_le, cv_eq, nI_toInt, cv_0] at c30
            first
            | omega
            | refine r_aload0 hR dX7_missed_33 ?_
              refine r_get hR (by first | decide | assumption | (simp only [gcnt_4, gcnt_1, gcnt_2, gcnt_3, gcnt_12, gcnt_13, gcnt_16]; omega)) fl_X7_10 rfl rfl dX7_missed_34 ?_
              refine r_iload2 hR dX7_missed_37 ?_
              refine r_cv1v hR kv_X7_89 (by decide) (t_X1_isSick (by decide) hsN w2 (by omega)) (by first | decide | assumption | (simp only [gcnt_4, gcnt_1, gcnt_2, gcnt_3, gcnt_12, gcnt_13, gcnt_16]; omega)) rfl rfl (Nat.le_of_ble_eq_true rfl) dX7_missed_38 ?_
              refine r_if_ne hR 81 dX7_missed_41 (by decide) (fun c41 => ?_) (fun c41 => ?_)
              · try simp (disch := omega) only [nI_ltI, nI_leI, nI_eq, bI_0, Decidable.not_not, lc_lt, lc_gt, lc_ge, lc_le, lc_eq, i64_toInt] at c41
                try simp (disch := omega) only [cv_lt, cv_le, cv_eq, nI_toInt, cv_0] at c41
                first
                | omega
                | refine r_iinc2 hR (nI 1) (by decide) (fun _ h => by first | (cases h; rfl) | exact absurd h (by simp)) dX7_missed_81 ?_
                  try rw [nI_add]
                  refine r_goto hR 27 dX7_missed_84 (by decide) ?_
                  first
                  | (have em : misB (aS A) n (i + 1) = misB (aS A) n i := by show (if _ then _ else _) = _; rw [if_pos c41]
                     exact ih (i + 1) N (by omega) hX (by rw [em]; exact hp))
                  | (have em : misB (aS A) n (i + 1) = (if (misB (aS A) n i).1 = -1 ∨ gainN n (va_up (aS A) 2 (mkS (aS A 2) i 1)) < (misB (aS A) n i).2 then (nI i, gainN n (va_up (aS A) 2 (mkS (aS A 2) i 1))) else misB (aS A) n i) := by show (if _ then _ else _) = _; rw [if_neg c41]
                     have hX2 : eqX M (putSea (putSea (putSea N 1 (aS A)) 1 (va_up (aS A) 2 (mkS (aS A 2) i 1))) 1 (dayN n (va_up (aS A) 2 (mkS (aS A 2) i 1)))) := hX.tr (((eqX_put1 N _ w3).tr (eqX_put1 _ _ w3)).tr (eqX_put1 _ _ (by rw [dayN_3]; exact w3)))
                     have hp2 : pkM (putSea (putSea (putSea N 1 (aS A)) 1 (va_up (aS A) 2 (mkS (aS A 2) i 1))) 1 (dayN n (va_up (aS A) 2 (mkS (aS A 2) i 1)))) (misB (aS A) n i) := by unfold pkM at hp ⊢; simp only [put_7]; exact hp
                     have hok := pkM_ok (w := i) (g := gainN n (va_up (aS A) 2 (mkS (aS A 2) i 1))) hX2 hp2 rfl (by have := gain_le (hwS (by omega)) (n := n) (by show aS A 0 + n < 20000; omega); omega) (by omega)
                     exact ih (i + 1) _ (by omega) hok.1 (by rw [em]; exact hok.2))
              · try simp (disch := omega) only [nI_ltI, nI_leI, nI_eq, bI_0, Decidable.not_not, lc_lt, lc_gt, lc_ge, lc_le, lc_eq, i64_toInt] at c41
                try simp (disch := omega) only [cv_lt, cv_le, cv_eq, nI_toInt, cv_0] at c41
                first
                | omega
                | refine r_aload0 hR dX7_missed_44 ?_
                  refine r_get hR (by first | decide | assumption | (simp only [gcnt_4, gcnt_1, gcnt_2, gcnt_3, gcnt_12, gcnt_13, gcnt_16]; omega)) fl_X7_16 rfl rfl dX7_missed_45 ?_
                  refine r_aload0 hR dX7_missed_48 ?_
                  refine r_get hR (by first | decide | assumption | (simp only [gcnt_4, gcnt_1, gcnt_2, gcnt_3, gcnt_12, gcnt_13, gcnt_16]; omega)) fl_X7_10 rfl rfl dX7_missed_49 ?_
                  refine r_cv1u hR kv_X7_207 (by decide) (t_X1_become (by decide) (by decide) (by decide) hsN w3) (by first | decide | assumption | (simp only [gcnt_4, gcnt_1, gcnt_2, gcnt_3, gcnt_12, gcnt_13, gcnt_16]; omega)) rfl rfl (Nat.le_of_ble_eq_true rfl) dX7_missed_52 ?_
                  refine r_aload0 hR dX7_missed_55 ?_
                  refine r_get hR (by first | decide | assumption | (simp only [gcnt_4, gcnt_1, gcnt_2, gcnt_3, gcnt_12, gcnt_13, gcnt_16]; omega)) fl_X7_16 rfl rfl dX7_missed_56 ?_
                  refine r_iload2 hR dX7_missed_59 ?_
                  refine r_iconst hR (nI 1) (by decide) dX7_missed_60 ?_
                  refine r_cv2u hR kv_X7_93 (by decide) (t_X1_makeSick (by decide) (putSea_P N 1 (aS A)) w2 (by omega) (by decide)) (by first | decide | assumption | (simp only [gcnt_4, gcnt_1, gcnt_2, gcnt_3, gcnt_12, gcnt_13, gcnt_16]; omega)) rfl rfl (Nat.le_of_ble_eq_true rfl) dX7_missed_61 ?_
                  refine r_aload0 hR dX7_missed_64 ?_
                  refine r_get hR (by first | decide | assumption | (simp only [gcnt_4, gcnt_1, gcnt_2, gcnt_3, gcnt_12, gcnt_13, gcnt_16]; omega)) fl_X7_46 rfl rfl dX7_missed_65 ?_
                  refine r_iload2 hR dX7_missed_68 ?_
                  refine r_aload0 hR dX7_missed_69 ?_
                  refine r_get hR (by first | decide | assumption | (simp only [gcnt_4, gcnt_1, gcnt_2, gcnt_3, gcnt_12, gcnt_13, gcnt_16]; omega)) fl_X7_16 rfl rfl dX7_missed_70 ?_
                  refine r_iload1 hR dX7_missed_73 ?_
                  refine r_cv1v hR kv_X7_161 (by decide) (t_X1_gainIn (by decide) (putSea_P (putSea N 1 (aS A)) 1 (va_up (aS A) 2 (mkS (aS A 2) i 1))) (hwS (by omega)) (by omega) (by show aS A 0 + n < 20000; omega)) (by first | decide | assumption | (simp only [gcnt_4, gcnt_1, gcnt_2, gcnt_3, gcnt_12, gcnt_13, gcnt_16]; omega)) rfl rfl (Nat.le_of_ble_eq_true rfl) dX7_missed_74 ?_
                  refine r_ineg hR dX7_missed_77 ?_
                  refine r_cv2u hR kv_X7_211 (by decide) (t_X0_weigh rfl) (by first | decide | assumption | (simp only [gcnt_4, gcnt_1, gcnt_2, gcnt_3, gcnt_12, gcnt_13, gcnt_16]; omega)) rfl rfl (Nat.le_of_ble_eq_true rfl) dX7_missed_78 ?_
                  refine r_iinc2 hR (nI 1) (by decide) (fun _ h => by first | (cases h; rfl) | exact absurd h (by simp)) dX7_missed_81 ?_
                  try rw [nI_add]
                  refine r_goto hR 27 dX7_missed_84 (by decide) ?_
                  first
                  | (have em : misB (aS A) n (i + 1) = misB (aS A) n i := by show (if _ then _ else _) = _; rw [if_pos c41]
                     exact ih (i + 1) N (by omega) hX (by rw [em]; exact hp))
                  | (have em : misB (aS A) n (i + 1) = (if (misB (aS A) n i).1 = -1 ∨ gainN n (va_up (aS A) 2 (mkS (aS A 2) i 1)) < (misB (aS A) n i).2 then (nI i, gainN n (va_up (aS A) 2 (mkS (aS A 2) i 1))) else misB (aS A) n i) := by show (if _ then _ else _) = _; rw [if_neg c41]
                     have hX2 : eqX M (putSea (putSea (putSea N 1 (aS A)) 1 (va_up (aS A) 2 (mkS (aS A 2) i 1))) 1 (dayN n (va_up (aS A) 2 (mkS (aS A 2) i 1)))) := hX.tr (((eqX_put1 N _ w3).tr (eqX_put1 _ _ w3)).tr (eqX_put1 _ _ (by rw [dayN_3]; exact w3)))
                     have hp2 : pkM (putSea (putSea (putSea N 1 (aS A)) 1 (va_up (aS A) 2 (mkS (aS A 2) i 1))) 1 (dayN n (va_up (aS A) 2 (mkS (aS A 2) i 1)))) (misB (aS A) n i) := by unfold pkM at hp ⊢; simp only [put_7]; exact hp
                     have hok := pkM_ok (w := i) (g := gainN n (va_up (aS A) 2 (mkS (aS A 2) i 1))) hX2 hp2 rfl (by have := gain_le (hwS (by omega)) (n := n) (by show aS A 0 + n < 20000; omega); omega) (by omega)
                     exact ih (i + 1) _ (by omega) hok.1 (by rw [em]; exact hok.2))
      refine r_aload0 hR dX7_missed_16 ?_
      refine r_get hR (by first | decide | assumption | (simp only [gcnt_4, gcnt_1, gcnt_2, gcnt_3, gcnt_12, gcnt_13, gcnt_16]; omega)) fl_X7_46 rfl rfl dX7_missed_17 ?_
      try simp only [s0, s2, s3, s4]
      refine r_ldc hR ct_X7_218 dX7_missed_20 ?_
      refine r_cv1u hR kv_X7_210 (by decide) (t_X0_begin) (by first | decide | assumption | (simp only [gcnt_4, gcnt_1, gcnt_2, gcnt_3, gcnt_12, gcnt_13, gcnt_16]; omega)) rfl rfl (Nat.le_of_ble_eq_true rfl) dX7_missed_22 ?_
      refine r_iconst hR (nI 0) (by decide) dX7_missed_25 ?_
      refine r_istore2 hR (fun _ h => by first | (cases h; rfl) | exact absurd h (by simp)) dX7_missed_26 ?_
      exact L 8 0 _ rfl ((eqX_seti M (by unfold scr; omega)).tr (eqX_seti _ (by unfold scr; omega))) ⟨by simp [seti_r, misB], Or.inl ⟨by simp [misB], by simp [seti_r]⟩⟩
  · try simp (disch := omega) only [nI_ltI, nI_leI, nI_eq, bI_0, Decidable.not_not, lc_lt, lc_gt, lc_ge, lc_le, lc_eq, i64_toInt] at c6
    try simp (disch := omega) only [cv_lt, cv_le, cv_eq, nI_toInt, cv_0] at c6
    first
    | omega
    | refine r_aload0 hR dX7_missed_9 ?_
      refine r_ldc hR ct_X7_81 dX7_missed_10 ?_
      refine r_cv1v hR kv_X7_82 (by decide) (t_X7_findingC (n := 0) (by decide) (by decide)) (by first | decide | assumption | (simp only [gcnt_4, gcnt_1, gcnt_2, gcnt_3, gcnt_12, gcnt_13, gcnt_16]; omega)) rfl rfl (Nat.le_of_ble_eq_true rfl) dX7_missed_12 ?_
      refine r_iret hR dX7_missed_15 ?_
      refine Qc_fnd hc (by decide) ?_
      unfold oMissed
      dsimp only [okI, okT]
      (repeat' split) <;> first | rfl | omega

