set_option maxHeartbeats 4000000 in
set_option maxRecDepth 100000 in
theorem t_X7_on {G : gG} {M : gM} {A : gA} {x y z : Int32} (hc : clsP M A) (hw : wfA A) : Ct G mX7_on 5 [.ref (ad G 0 0), .int x, .int y, .int z] M (Qc M (oOn A x y z)) := by
  obtain ⟨hwf, hday, hwk, hk2, hl, hT, hsh⟩ := id hw
  obtain ⟨w0, w1, w2, w3, wr, wt⟩ := id hwf
  obtain ⟨s0, s2, s3, s4, sr, sth⟩ := id hc.1
  have hK8 : ak A = 1 → aK A 3 ≤ 8 := fun z => (hwk z).1.2.2.2.1
  refine Ct.of (by decide +kernel) (k := 1) (ls0 := [some (.ref (ad G 0 0)), some (.int x), some (.int y), some (.int z), none]) rfl rfl (fun _ _ => trivial) ?_
  intro P hR
  refine r_aload0 hR dX7_on_0 ?_
  refine r_get hR (by first | decide | assumption | (simp only [gcnt_4, gcnt_1, gcnt_2, gcnt_3, gcnt_12, gcnt_13, gcnt_16]; omega)) fl_X7_10 rfl rfl dX7_on_1 ?_
  try simp only [s0, s2, s3, s4]
  refine r_iload1 hR dX7_on_4 ?_
  refine r_cv1v hR kv_X7_121 (by decide) (t_X1_has (by decide) hc.1 w3) (by first | decide | assumption | (simp only [gcnt_4, gcnt_1, gcnt_2, gcnt_3, gcnt_12, gcnt_13, gcnt_16]; omega)) rfl rfl (Nat.le_of_ble_eq_true rfl) dX7_on_5 ?_
  refine r_if_eq hR 28 dX7_on_8 (by decide) (fun c8 => ?_) (fun c8 => ?_)
  · try simp (disch := omega) only [nI_ltI, nI_leI, nI_eq, bI_0, Decidable.not_not, lc_lt, lc_gt, lc_ge, lc_le, lc_eq, i64_toInt] at c8
    try simp (disch := omega) only [cv_lt, cv_le, cv_eq, nI_toInt, cv_0] at c8
    first
    | omega
    | refine r_aload0 hR dX7_on_28 ?_
      refine r_ldc hR ct_X7_81 dX7_on_29 ?_
      refine r_cv1v hR kv_X7_82 (by decide) (t_X7_findingC (n := 0) (by decide) (by decide)) (by first | decide | assumption | (simp only [gcnt_4, gcnt_1, gcnt_2, gcnt_3, gcnt_12, gcnt_13, gcnt_16]; omega)) rfl rfl (Nat.le_of_ble_eq_true rfl) dX7_on_31 ?_
      refine r_iret hR dX7_on_34 ?_
      refine Qc_fnd hc (by decide) ?_
      unfold oOn
      dsimp only [okI, okT]
      (repeat' split) <;> first | rfl | omega
  · try simp (disch := omega) only [nI_ltI, nI_leI, nI_eq, bI_0, Decidable.not_not, lc_lt, lc_gt, lc_ge, lc_le, lc_eq, i64_toInt] at c8
    try simp (disch := omega) only [cv_lt, cv_le, cv_eq, nI_toInt, cv_0] at c8
    first
    | omega
    | refine r_iload2 hR dX7_on_11 ?_
      refine r_bipush hR (nI 60) (by decide) dX7_on_12 ?_
      refine r_cs2v hR ks_X7_77 (by decide) (t_X7_within) (Nat.le_of_ble_eq_true rfl) dX7_on_14 ?_
      refine r_if_eq hR 28 dX7_on_17 (by decide) (fun c17 => ?_) (fun c17 => ?_)
      · try simp (disch := omega) only [nI_ltI, nI_leI, nI_eq, bI_0, Decidable.not_not, lc_lt, lc_gt, lc_ge, lc_le, lc_eq, i64_toInt] at c17
        try simp (disch := omega) only [cv_lt, cv_le, cv_eq, nI_toInt, cv_0] at c17
        first
        | omega
        | refine r_aload0 hR dX7_on_28 ?_
          refine r_ldc hR ct_X7_81 dX7_on_29 ?_
          refine r_cv1v hR kv_X7_82 (by decide) (t_X7_findingC (n := 0) (by decide) (by decide)) (by first | decide | assumption | (simp only [gcnt_4, gcnt_1, gcnt_2, gcnt_3, gcnt_12, gcnt_13, gcnt_16]; omega)) rfl rfl (Nat.le_of_ble_eq_true rfl) dX7_on_31 ?_
          refine r_iret hR dX7_on_34 ?_
          refine Qc_fnd hc (by decide) ?_
          unfold oOn
          dsimp only [okI, okT]
          (repeat' split) <;> first | rfl | omega
      · try simp (disch := omega) only [nI_ltI, nI_leI, nI_eq, bI_0, Decidable.not_not, lc_lt, lc_gt, lc_ge, lc_le, lc_eq, i64_toInt] at c17
        try simp (disch := omega) only [cv_lt, cv_le, cv_eq, nI_toInt, cv_0] at c17
        first
        | omega
        | refine r_iload3 hR dX7_on_20 ?_
          refine r_iconst hR (nI 1) (by decide) dX7_on_21 ?_
          refine r_cs2v hR ks_X7_77 (by decide) (t_X7_within) (Nat.le_of_ble_eq_true rfl) dX7_on_22 ?_
          refine r_if_ne hR 35 dX7_on_25 (by decide) (fun c25 => ?_) (fun c25 => ?_)
          · try simp (disch := omega) only [nI_ltI, nI_leI, nI_eq, bI_0, Decidable.not_not, lc_lt, lc_gt, lc_ge, lc_le, lc_eq, i64_toInt] at c25
            try simp (disch := omega) only [cv_lt, cv_le, cv_eq, nI_toInt, cv_0] at c25
            first
            | omega
            | obtain ⟨n, hn, rfl⟩ := of_in (x := y) (N := 60) (by omega)
              obtain ⟨wh, hwh, rfl⟩ := of_in (x := z) (N := 1) (by omega)
              obtain ⟨t, ht0, rfl⟩ := of_in (x := x) (N := aS A 3 - 1) (by omega)
              have htt : t < aS A 3 := by rw [nI_toInt (by omega)] at c8; omega
              have k0 : M.1 4 (8 * 0 + t) 0 = nI (thg (aS A) t 0) := sth t htt 0 (by decide)
              have k1 : M.1 4 (8 * 0 + t) 1 = nI (thg (aS A) t 1) := sth t htt 1 (by decide)
              have k2 : M.1 4 (8 * 0 + t) 2 = nI (thg (aS A) t 2) := sth t htt 2 (by decide)
              have k3 : M.1 4 (8 * 0 + t) 3 = nI (thg (aS A) t 3) := sth t htt 3 (by decide)
              have q0 : thg (aS A) t 0 < 6 := by have := wt t htt; unfold thg; rw [Nat.add_zero]; omega
              have q1 : thg (aS A) t 1 < 36 := by have := wt t htt; unfold thg; omega
              have q2 : thg (aS A) t 2 < 8 := by have := wt t htt; unfold thg; omega
              have q3 : thg (aS A) t 3 ≤ 99999 := by have := wt t htt; unfold thg; omega
              have e : oOn A (nI t) (nI n) (nI wh) = (nI (thg (dayN n (aS A)) t (if wh = 0 then 1 else 3)), A) := by
                unfold oOn
                rw [if_pos (by simp (disch := omega) only [okI, okT, nI_toInt]; omega)]
                simp (disch := omega) only [uN_nI]
              have L : ∀ (j i : Nat), i + j = n → P 54 [some (.ref (ad G 0 0)), some (.int (nI t)), some (.int (nI n)), some (.int (nI wh)), some (.int (nI i))] [] (putTh M 24 (thg (aS A) t 0) (thg (dayN i (aS A)) t 1) (thg (aS A) t 2) (thg (dayN i (aS A)) t 3)) := by
                intro j
                induction j with
                | zero =>
                  intro i  hij 
                  refine r_iload4 hR dX7_on_54 ?_
                  refine r_iload2 hR dX7_on_56 ?_
                  refine r_icmp_ge hR 79 dX7_on_57 (by decide) (fun c57 => ?_) (fun c57 => ?_)
                  · try simp (disch := omega) only [nI_ltI, nI_leI, nI_eq, bI_0, Decidable.not_not, lc_lt, lc_gt, lc_ge, lc_le, lc_eq, i64_toInt] at c57
                    try simp (disch := omega) only [cv_lt, cv_le, cv_eq, nI_toInt, cv_0] at c57
                    first
                    | omega
                    | refine r_iload3 hR dX7_on_79 ?_
                      refine r_if_ne hR 93 dX7_on_80 (by decide) (fun c80 => ?_) (fun c80 => ?_)
                      · try simp (disch := omega) only [nI_ltI, nI_leI, nI_eq, bI_0, Decidable.not_not, lc_lt, lc_gt, lc_ge, lc_le, lc_eq, i64_toInt] at c80
                        try simp (disch := omega) only [cv_lt, cv_le, cv_eq, nI_toInt, cv_0] at c80
                        first
                        | omega
                        | refine r_aload0 hR dX7_on_93 ?_
                          refine r_get hR (by first | decide | assumption | (simp only [gcnt_4, gcnt_1, gcnt_2, gcnt_3, gcnt_12, gcnt_13, gcnt_16]; omega)) fl_X7_29 rfl rfl dX7_on_94 ?_
                          try simp only [s0, s2, s3, s4]
                          refine r_get hR (by first | decide | assumption | (simp only [gcnt_4, gcnt_1, gcnt_2, gcnt_3, gcnt_12, gcnt_13, gcnt_16]; omega)) fl_X7_140 rfl rfl dX7_on_97 ?_
                          try simp only [s0, s2, s3, s4]
                          refine r_nm (nI (thg (dayN i (aS A)) t 3)) (by simp [putTh_r]) ?_
                          refine r_iret hR dX7_on_100 ?_
                          obtain rfl : i = n := by omega
                          refine Qc_eqX (A := A) (eqX_putTh M (by decide)) w3 hK8 hc ?_
                          rw [e]
                          first | rw [if_pos c80] | rw [if_neg c80]
                      · try simp (disch := omega) only [nI_ltI, nI_leI, nI_eq, bI_0, Decidable.not_not, lc_lt, lc_gt, lc_ge, lc_le, lc_eq, i64_toInt] at c80
                        try simp (disch := omega) only [cv_lt, cv_le, cv_eq, nI_toInt, cv_0] at c80
                        first
                        | omega
                        | refine r_aload0 hR dX7_on_83 ?_
                          refine r_get hR (by first | decide | assumption | (simp only [gcnt_4, gcnt_1, gcnt_2, gcnt_3, gcnt_12, gcnt_13, gcnt_16]; omega)) fl_X7_29 rfl rfl dX7_on_84 ?_
                          try simp only [s0, s2, s3, s4]
                          refine r_get hR (by first | decide | assumption | (simp only [gcnt_4, gcnt_1, gcnt_2, gcnt_3, gcnt_12, gcnt_13, gcnt_16]; omega)) fl_X7_134 rfl rfl dX7_on_87 ?_
                          try simp only [s0, s2, s3, s4]
                          refine r_nm (nI (thg (dayN i (aS A)) t 1)) (by simp [putTh_r]) ?_
                          refine r_goto hR 100 dX7_on_90 (by decide) ?_
                          refine r_iret hR dX7_on_100 ?_
                          obtain rfl : i = n := by omega
                          refine Qc_eqX (A := A) (eqX_putTh M (by decide)) w3 hK8 hc ?_
                          rw [e]
                          first | rw [if_pos c80] | rw [if_neg c80]
                  · try simp (disch := omega) only [nI_ltI, nI_leI, nI_eq, bI_0, Decidable.not_not, lc_lt, lc_gt, lc_ge, lc_le, lc_eq, i64_toInt] at c57
                    try simp (disch := omega) only [cv_lt, cv_le, cv_eq, nI_toInt, cv_0] at c57
                    first
                    | omega
                    | refine r_aload0 hR dX7_on_60 ?_
                      refine r_get hR (by first | decide | assumption | (simp only [gcnt_4, gcnt_1, gcnt_2, gcnt_3, gcnt_12, gcnt_13, gcnt_16]; omega)) fl_X7_10 rfl rfl dX7_on_61 ?_
                      try simp only [s0, s2, s3, s4]
                      refine r_aload0 hR dX7_on_64 ?_
                      refine r_get hR (by first | decide | assumption | (simp only [gcnt_4, gcnt_1, gcnt_2, gcnt_3, gcnt_12, gcnt_13, gcnt_16]; omega)) fl_X7_29 rfl rfl dX7_on_65 ?_
                      try simp only [s0, s2, s3, s4]
                      refine r_iload4 hR dX7_on_68 ?_
                      refine r_cv2u hR kv_X7_185 (by decide) (t_X1_carry (by decide) (seaP_eqX (eqX_putTh M (by decide)) w3 hc.1) hwf (by decide) (by simp [putTh_r]) (by simp [putTh_r]) (by simp [putTh_r]) (by simp [putTh_r]) q0 q2 (day_b (d := i) hwf htt).1 (day_b (d := i) hwf htt).2 (by omega)) (by first | decide | assumption | (simp only [gcnt_4, gcnt_1, gcnt_2, gcnt_3, gcnt_12, gcnt_13, gcnt_16]; omega)) rfl rfl (Nat.le_of_ble_eq_true rfl) dX7_on_70 ?_
                      refine r_iinc4 hR (nI 1) (by decide) (fun _ h => by first | (cases h; rfl) | exact absurd h (by simp)) dX7_on_73 ?_
                      try rw [nI_add]
                      refine r_goto hR 54 dX7_on_76 (by decide) ?_
                      omega
                | succ j ih =>
                  intro i  hij 
                  refine r_iload4 hR dX7_on_54 ?_
                  refine r_iload2 hR dX7_on_56 ?_
                  refine r_icmp_ge hR 79 dX7_on_57 (by decide) (fun c57 => ?_) (fun c57 => ?_)
                  · try simp (disch := omega) only [nI_ltI, nI_leI, nI_eq, bI_0, Decidable.not_not, lc_lt, lc_gt, lc_ge, lc_le, lc_eq, i64_toInt] at c57
                    try simp (disch := omega) only [cv_lt, cv_le, cv_eq, nI_toInt, cv_0] at c57
                    first
                    | omega
                    | refine r_iload3 hR dX7_on_79 ?_
                      refine r_if_ne hR 93 dX7_on_80 (by decide) (fun c80 => ?_) (fun c80 => ?_)
                      · try simp (disch := omega) only [nI_ltI, nI_leI, nI_eq, bI_0, Decidable.not_not, lc_lt, lc_gt, lc_ge, lc_le, lc_eq, i64_toInt] at c80
                        try simp (disch := omega) only [cv_lt, cv_le, cv_eq, nI_toInt, cv_0] at c80
                        first
                        | omega
                        | refine r_aload0 hR dX7_on_93 ?_
                          refine r_get hR (by first | decide | assumption | (simp only [gcnt_4, gcnt_1, gcnt_2, gcnt_3, gcnt_12, gcnt_13, gcnt_16]; omega)) fl_X7_29 rfl rfl dX7_on_94 ?_
                          try simp only [s0, s2, s3, s4]
                          refine r_get hR (by first | decide | assumption | (simp only [gcnt_4, gcnt_1, gcnt_2, gcnt_3, gcnt_12, gcnt_13, gcnt_16]; omega)) fl_X7_140 rfl rfl dX7_on_97 ?_
                          try simp only [s0, s2, s3, s4]
                          refine r_nm (nI (thg (dayN i (aS A)) t 3)) (by simp [putTh_r]) ?_
                          refine r_iret hR dX7_on_100 ?_
                          obtain rfl : i = n := by omega
                          refine Qc_eqX (A := A) (eqX_putTh M (by decide)) w3 hK8 hc ?_
                          rw [e]
                          first | rw [if_pos c80] | rw [if_neg c80]
                      · try simp (disch := omega) only [nI_ltI, nI_leI, nI_eq, bI_0, Decidable.not_not, lc_lt, lc_gt, lc_ge, lc_le, lc_eq, i64_toInt] at c80
                        try simp (disch := omega) only [cv_lt, cv_le, cv_eq, nI_toInt, cv_0] at c80
                        first
                        | omega
                        | refine r_aload0 hR dX7_on_83 ?_
                          refine r_get hR (by first | decide | assumption | (simp only [gcnt_4, gcnt_1, gcnt_2, gcnt_3, gcnt_12, gcnt_13, gcnt_16]; omega)) fl_X7_29 rfl rfl dX7_on_84 ?_
                          try simp only [s0, s2, s3, s4]
                          refine r_get hR (by first | decide | assumption | (simp only [gcnt_4, gcnt_1, gcnt_2, gcnt_3, gcnt_12, gcnt_13, gcnt_16]; omega)) fl_X7_134 rfl rfl dX7_on_87 ?_
                          try simp only [s0, s2, s3, s4]
                          refine r_nm (nI (thg (dayN i (aS A)) t 1)) (by simp [putTh_r]) ?_
                          refine r_goto hR 100 dX7_on_90 (by decide) ?_
                          refine r_iret hR dX7_on_100 ?_
                          obtain rfl : i = n := by omega
                          refine Qc_eqX (A := A) (eqX_putTh M (by decide)) w3 hK8 hc ?_
                          rw [e]
                          first | rw [if_pos c80] | rw [if_neg c80]
                  · try simp (disch := omega) only [nI_ltI, nI_leI, nI_eq, bI_0, Decidable.not_not, lc_lt, lc_gt, lc_ge, lc_le, lc_eq, i64_toInt] at c57
                    try simp (disch := omega) only [cv_lt, cv_le, cv_eq, nI_toInt, cv_0] at c57
                    first
                    | omega
                    | refine r_aload0 hR dX7_on_60 ?_
                      refine r_get hR (by first | decide | assumption | (simp only [gcnt_4, gcnt_1, gcnt_2, gcnt_3, gcnt_12, gcnt_13, gcnt_16]; omega)) fl_X7_10 rfl rfl dX7_on_61 ?_
                      try simp only [s0, s2, s3, s4]
                      refine r_aload0 hR dX7_on_64 ?_
                      refine r_get hR (by first | decide | assumption | (simp only [gcnt_4, gcnt_1, gcnt_2, gcnt_3, gcnt_12, gcnt_13, gcnt_16]; omega)) fl_X7_29 rfl rfl dX7_on_65 ?_
                      try simp only [s0, s2, s3, s4]
                      refine r_iload4 hR dX7_on_68 ?_
                      refine r_cv2u hR kv_X7_185 (by decide) (t_X1_carry (by decide) (seaP_eqX (eqX_putTh M (by decide)) w3 hc.1) hwf (by decide) (by simp [putTh_r]) (by simp [putTh_r]) (by simp [putTh_r]) (by simp [putTh_r]) q0 q2 (day_b (d := i) hwf htt).1 (day_b (d := i) hwf htt).2 (by omega)) (by first | decide | assumption | (simp only [gcnt_4, gcnt_1, gcnt_2, gcnt_3, gcnt_12, gcnt_13, gcnt_16]; omega)) rfl rfl (Nat.le_of_ble_eq_true rfl) dX7_on_70 ?_
                      refine r_iinc4 hR (nI 1) (by decide) (fun _ h => by first | (cases h; rfl) | exact absurd h (by simp)) dX7_on_73 ?_
                      try rw [nI_add]
                      refine r_goto hR 54 dX7_on_76 (by decide) ?_
                      rw [putTh_step, ← day_c htt, ← day_s htt]
                      exact ih (i + 1) (by omega)
              refine r_aload0 hR dX7_on_35 ?_
              refine r_get hR (by first | decide | assumption | (simp only [gcnt_4, gcnt_1, gcnt_2, gcnt_3, gcnt_12, gcnt_13, gcnt_16]; omega)) fl_X7_29 rfl rfl dX7_on_36 ?_
              try simp only [s0, s2, s3, s4]
              refine r_aload0 hR dX7_on_39 ?_
              refine r_get hR (by first | decide | assumption | (simp only [gcnt_4, gcnt_1, gcnt_2, gcnt_3, gcnt_12, gcnt_13, gcnt_16]; omega)) fl_X7_10 rfl rfl dX7_on_40 ?_
              try simp only [s0, s2, s3, s4]
              refine r_get hR (by first | decide | assumption | (simp only [gcnt_4, gcnt_1, gcnt_2, gcnt_3, gcnt_12, gcnt_13, gcnt_16]; omega)) fl_X7_124 rfl rfl dX7_on_43 ?_
              try simp only [s0, s2, s3, s4]
              refine r_iload1 hR dX7_on_46 ?_
              refine r_aald hR (t0 := 3) (by first | decide | assumption | (simp only [gcnt_4, gcnt_1, gcnt_2, gcnt_3, gcnt_12, gcnt_13, gcnt_16]; omega)) rfl rfl rfl (by omega) (by decide) rfl dX7_on_47 ?_
              refine r_cv1u hR kv_X7_181 (by decide) (t_X5_become (by decide) (by omega)) (by first | decide | assumption | (simp only [gcnt_4, gcnt_1, gcnt_2, gcnt_3, gcnt_12, gcnt_13, gcnt_16]; omega)) rfl rfl (Nat.le_of_ble_eq_true rfl) dX7_on_48 ?_
              rw [k0, k1, k2, k3]
              refine r_iconst hR (nI 0) (by decide) dX7_on_51 ?_
              refine r_istore4 hR (fun _ h => by first | (cases h; rfl) | exact absurd h (by simp)) dX7_on_52 ?_
              exact L n 0 (by omega)
          · try simp (disch := omega) only [nI_ltI, nI_leI, nI_eq, bI_0, Decidable.not_not, lc_lt, lc_gt, lc_ge, lc_le, lc_eq, i64_toInt] at c25
            try simp (disch := omega) only [cv_lt, cv_le, cv_eq, nI_toInt, cv_0] at c25
            first
            | omega
            | refine r_aload0 hR dX7_on_28 ?_
              refine r_ldc hR ct_X7_81 dX7_on_29 ?_
              refine r_cv1v hR kv_X7_82 (by decide) (t_X7_findingC (n := 0) (by decide) (by decide)) (by first | decide | assumption | (simp only [gcnt_4, gcnt_1, gcnt_2, gcnt_3, gcnt_12, gcnt_13, gcnt_16]; omega)) rfl rfl (Nat.le_of_ble_eq_true rfl) dX7_on_31 ?_
              refine r_iret hR dX7_on_34 ?_
              refine Qc_fnd hc (by decide) ?_
              unfold oOn
              dsimp only [okI, okT]
              (repeat' split) <;> first | rfl | omega

set_option maxHeartbeats 4000000 in
set_option maxRecDepth 100000 in
theorem t_X7_comes {G : gG} {M : gM} {A : gA} {x y : Int32} (hc : clsP M A) (hw : wfA A) : Ct G mX7_comes 5 [.ref (ad G 0 0), .int x, .int y] M (Qc M (oComes A x y)) := by
  obtain ⟨hwf, hday, hwk, hk2, hl, hT, hsh⟩ := id hw
  obtain ⟨w0, w1, w2, w3, wr, wt⟩ := id hwf
  obtain ⟨s0, s2, s3, s4, sr, sth⟩ := id hc.1
  have hK8 : ak A = 1 → aK A 3 ≤ 8 := fun z => (hwk z).1.2.2.2.1
  refine Ct.of (by decide +kernel) (k := 1) (ls0 := [some (.ref (ad G 0 0)), some (.int x), some (.int y), none]) rfl rfl (fun _ _ => trivial) ?_
  intro P hR
  refine r_aload0 hR dX7_comes_0 ?_
  refine r_get hR (by first | decide | assumption | (simp only [gcnt_4, gcnt_1, gcnt_2, gcnt_3, gcnt_12, gcnt_13, gcnt_16]; omega)) fl_X7_10 rfl rfl dX7_comes_1 ?_
  try simp only [s0, s2, s3, s4]
  refine r_iload1 hR dX7_comes_4 ?_
  refine r_cv1v hR kv_X7_121 (by decide) (t_X1_has (by decide) hc.1 w3) (by first | decide | assumption | (simp only [gcnt_4, gcnt_1, gcnt_2, gcnt_3, gcnt_12, gcnt_13, gcnt_16]; omega)) rfl rfl (Nat.le_of_ble_eq_true rfl) dX7_comes_5 ?_
  refine r_if_eq hR 20 dX7_comes_8 (by decide) (fun c8 => ?_) (fun c8 => ?_)
  · try simp (disch := omega) only [nI_ltI, nI_leI, nI_eq, bI_0, Decidable.not_not, lc_lt, lc_gt, lc_ge, lc_le, lc_eq, i64_toInt] at c8
    try simp (disch := omega) only [cv_lt, cv_le, cv_eq, nI_toInt, cv_0] at c8
    first
    | omega
    | refine r_aload0 hR dX7_comes_20 ?_
      refine r_ldc hR ct_X7_81 dX7_comes_21 ?_
      refine r_cv1v hR kv_X7_82 (by decide) (t_X7_findingC (n := 0) (by decide) (by decide)) (by first | decide | assumption | (simp only [gcnt_4, gcnt_1, gcnt_2, gcnt_3, gcnt_12, gcnt_13, gcnt_16]; omega)) rfl rfl (Nat.le_of_ble_eq_true rfl) dX7_comes_23 ?_
      refine r_iret hR dX7_comes_26 ?_
      refine Qc_fnd hc (by decide) ?_
      unfold oComes
      dsimp only [okI, okT]
      (repeat' split) <;> first | rfl | omega
  · try simp (disch := omega) only [nI_ltI, nI_leI, nI_eq, bI_0, Decidable.not_not, lc_lt, lc_gt, lc_ge, lc_le, lc_eq, i64_toInt] at c8
    try simp (disch := omega) only [cv_lt, cv_le, cv_eq, nI_toInt, cv_0] at c8
    first
    | omega
    | refine r_iload2 hR dX7_comes_11 ?_
      refine r_bipush hR (nI 35) (by decide) dX7_comes_12 ?_
      refine r_cs2v hR ks_X7_77 (by decide) (t_X7_within) (Nat.le_of_ble_eq_true rfl) dX7_comes_14 ?_
      refine r_if_ne hR 27 dX7_comes_17 (by decide) (fun c17 => ?_) (fun c17 => ?_)
      · try simp (disch := omega) only [nI_ltI, nI_leI, nI_eq, bI_0, Decidable.not_not, lc_lt, lc_gt, lc_ge, lc_le, lc_eq, i64_toInt] at c17
        try simp (disch := omega) only [cv_lt, cv_le, cv_eq, nI_toInt, cv_0] at c17
        first
        | omega
        | obtain ⟨ce, hce, rfl⟩ := of_in (x := y) (N := 35) (by omega)
          obtain ⟨t, ht0, rfl⟩ := of_in (x := x) (N := aS A 3 - 1) (by omega)
          have htt : t < aS A 3 := by rw [nI_toInt (by omega)] at c8; omega
          have k0 : M.1 4 (8 * 0 + t) 0 = nI (thg (aS A) t 0) := sth t htt 0 (by decide)
          have k1 : M.1 4 (8 * 0 + t) 1 = nI (thg (aS A) t 1) := sth t htt 1 (by decide)
          have k2 : M.1 4 (8 * 0 + t) 2 = nI (thg (aS A) t 2) := sth t htt 2 (by decide)
          have k3 : M.1 4 (8 * 0 + t) 3 = nI (thg (aS A) t 3) := sth t htt 3 (by decide)
          have q0 : thg (aS A) t 0 < 6 := by have := wt t htt; unfold thg; rw [Nat.add_zero]; omega
          have q1 : thg (aS A) t 1 < 36 := by have := wt t htt; unfold thg; omega
          have q2 : thg (aS A) t 2 < 8 := by have := wt t htt; unfold thg; omega
          have q3 : thg (aS A) t 3 ≤ 99999 := by have := wt t htt; unfold thg; omega
          have e : oComes A (nI t) (nI ce) = if firstN (fun d => thg (dayN d (aS A)) t 1 == ce) 61 0 = 61 then fnd A 3 else (nI (firstN (fun d => thg (dayN d (aS A)) t 1 == ce) 61 0), A) := by
            unfold oComes
            rw [if_pos (by simp (disch := omega) only [okI, okT, nI_toInt]; omega)]
            simp (disch := omega) only [uN_nI]
          have L : ∀ (j i : Nat), i + j = 61 → firstN (fun d => thg (dayN d (aS A)) t 1 == ce) j i = firstN (fun d => thg (dayN d (aS A)) t 1 == ce) 61 0 → P 45 [some (.ref (ad G 0 0)), some (.int (nI t)), some (.int (nI ce)), some (.int (nI i))] [] (putTh M 24 (thg (aS A) t 0) (thg (dayN i (aS A)) t 1) (thg (aS A) t 2) (thg (dayN i (aS A)) t 3)) := by
            intro j
            induction j with
            | zero =>
              intro i  hij hf
              refine r_iload3 hR dX7_comes_45 ?_
              refine r_bipush hR (nI 60) (by decide) dX7_comes_46 ?_
              refine r_icmp_gt hR 82 dX7_comes_48 (by decide) (fun c48 => ?_) (fun c48 => ?_)
              · try simp (disch := omega) only [nI_ltI, nI_leI, nI_eq, bI_0, Decidable.not_not, lc_lt, lc_gt, lc_ge, lc_le, lc_eq, i64_toInt] at c48
                try simp (disch := omega) only [cv_lt, cv_le, cv_eq, nI_toInt, cv_0] at c48
                first
                | omega
                | refine r_aload0 hR dX7_comes_82 ?_
                  refine r_ldc hR ct_X7_108 dX7_comes_83 ?_
                  refine r_cv1v hR kv_X7_82 (by decide) (t_X7_findingC (n := 3) (by decide) (by decide)) (by first | decide | assumption | (simp only [gcnt_4, gcnt_1, gcnt_2, gcnt_3, gcnt_12, gcnt_13, gcnt_16]; omega)) rfl rfl (Nat.le_of_ble_eq_true rfl) dX7_comes_85 ?_
                  refine r_iret hR dX7_comes_88 ?_
                  obtain rfl : i = 61 := by omega
                  refine Qc_fndX (A := A) (eqX_putTh M (by decide)) w3 hK8 hc (by decide) ?_
                  rw [e, ← hf]
                  exact if_pos rfl
              · try simp (disch := omega) only [nI_ltI, nI_leI, nI_eq, bI_0, Decidable.not_not, lc_lt, lc_gt, lc_ge, lc_le, lc_eq, i64_toInt] at c48
                try simp (disch := omega) only [cv_lt, cv_le, cv_eq, nI_toInt, cv_0] at c48
                first
                | omega
                | refine r_aload0 hR dX7_comes_51 ?_
                  refine r_get hR (by first | decide | assumption | (simp only [gcnt_4, gcnt_1, gcnt_2, gcnt_3, gcnt_12, gcnt_13, gcnt_16]; omega)) fl_X7_29 rfl rfl dX7_comes_52 ?_
                  try simp only [s0, s2, s3, s4]
                  refine r_get hR (by first | decide | assumption | (simp only [gcnt_4, gcnt_1, gcnt_2, gcnt_3, gcnt_12, gcnt_13, gcnt_16]; omega)) fl_X7_134 rfl rfl dX7_comes_55 ?_
                  try simp only [s0, s2, s3, s4]
                  refine r_nm (nI (thg (dayN i (aS A)) t 1)) (by simp [putTh_r]) ?_
                  have hcb := (day_b (d := i) hwf htt).1
                  refine r_iload2 hR dX7_comes_58 ?_
                  refine r_icmp_ne hR 64 dX7_comes_59 (by decide) (fun c59 => ?_) (fun c59 => ?_)
                  · try simp (disch := omega) only [nI_ltI, nI_leI, nI_eq, bI_0, Decidable.not_not, lc_lt, lc_gt, lc_ge, lc_le, lc_eq, i64_toInt] at c59
                    try simp (disch := omega) only [cv_lt, cv_le, cv_eq, nI_toInt, cv_0] at c59
                    first
                    | omega
                    | refine r_aload0 hR dX7_comes_64 ?_
                      refine r_get hR (by first | decide | assumption | (simp only [gcnt_4, gcnt_1, gcnt_2, gcnt_3, gcnt_12, gcnt_13, gcnt_16]; omega)) fl_X7_10 rfl rfl dX7_comes_65 ?_
                      try simp only [s0, s2, s3, s4]
                      refine r_aload0 hR dX7_comes_68 ?_
                      refine r_get hR (by first | decide | assumption | (simp only [gcnt_4, gcnt_1, gcnt_2, gcnt_3, gcnt_12, gcnt_13, gcnt_16]; omega)) fl_X7_29 rfl rfl dX7_comes_69 ?_
                      try simp only [s0, s2, s3, s4]
                      refine r_iload3 hR dX7_comes_72 ?_
                      refine r_cv2u hR kv_X7_185 (by decide) (t_X1_carry (by decide) (seaP_eqX (eqX_putTh M (by decide)) w3 hc.1) hwf (by decide) (by simp [putTh_r]) (by simp [putTh_r]) (by simp [putTh_r]) (by simp [putTh_r]) q0 q2 (day_b (d := i) hwf htt).1 (day_b (d := i) hwf htt).2 (by omega)) (by first | decide | assumption | (simp only [gcnt_4, gcnt_1, gcnt_2, gcnt_3, gcnt_12, gcnt_13, gcnt_16]; omega)) rfl rfl (Nat.le_of_ble_eq_true rfl) dX7_comes_73 ?_
                      refine r_iinc3 hR (nI 1) (by decide) (fun _ h => by first | (cases h; rfl) | exact absurd h (by simp)) dX7_comes_76 ?_
                      try rw [nI_add]
                      refine r_goto hR 45 dX7_comes_79 (by decide) ?_
                      omega
                  · try simp (disch := omega) only [nI_ltI, nI_leI, nI_eq, bI_0, Decidable.not_not, lc_lt, lc_gt, lc_ge, lc_le, lc_eq, i64_toInt] at c59
                    try simp (disch := omega) only [cv_lt, cv_le, cv_eq, nI_toInt, cv_0] at c59
                    first
                    | omega
                    | refine r_iload3 hR dX7_comes_62 ?_
                      refine r_iret hR dX7_comes_63 ?_
                      omega
            | succ j ih =>
              intro i  hij hf
              refine r_iload3 hR dX7_comes_45 ?_
              refine r_bipush hR (nI 60) (by decide) dX7_comes_46 ?_
              refine r_icmp_gt hR 82 dX7_comes_48 (by decide) (fun c48 => ?_) (fun c48 => ?_)
              · try simp (disch := omega) only [nI_ltI, nI_leI, nI_eq, bI_0, Decidable.not_not, lc_lt, lc_gt, lc_ge, lc_le, lc_eq, i64_toInt] at c48
                try simp (disch := omega) only [cv_lt, cv_le, cv_eq, nI_toInt, cv_0] at c48
                first
                | omega
                | refine r_aload0 hR dX7_comes_82 ?_
                  refine r_ldc hR ct_X7_108 dX7_comes_83 ?_
                  refine r_cv1v hR kv_X7_82 (by decide) (t_X7_findingC (n := 3) (by decide) (by decide)) (by first | decide | assumption | (simp only [gcnt_4, gcnt_1, gcnt_2, gcnt_3, gcnt_12, gcnt_13, gcnt_16]; omega)) rfl rfl (Nat.le_of_ble_eq_true rfl) dX7_comes_85 ?_
                  refine r_iret hR dX7_comes_88 ?_
                  omega
              · try simp (disch := omega) only [nI_ltI, nI_leI, nI_eq, bI_0, Decidable.not_not, lc_lt, lc_gt, lc_ge, lc_le, lc_eq, i64_toInt] at c48
                try simp (disch := omega) only [cv_lt, cv_le, cv_eq, nI_toInt, cv_0] at c48
                first
                | omega
                | refine r_aload0 hR dX7_comes_51 ?_
                  refine r_get hR (by first | decide | assumption | (simp only [gcnt_4, gcnt_1, gcnt_2, gcnt_3, gcnt_12, gcnt_13, gcnt_16]; omega)) fl_X7_29 rfl rfl dX7_comes_52 ?_
                  try simp only [s0, s2, s3, s4]
                  refine r_get hR (by first | decide | assumption | (simp only [gcnt_4, gcnt_1, gcnt_2, gcnt_3, gcnt_12, gcnt_13, gcnt_16]; omega)) fl_X7_134 rfl rfl dX7_comes_55 ?_
                  try simp only [s0, s2, s3, s4]
                  refine r_nm (nI (thg (dayN i (aS A)) t 1)) (by simp [putTh_r]) ?_
                  have hcb := (day_b (d := i) hwf htt).1
                  refine r_iload2 hR dX7_comes_58 ?_
                  refine r_icmp_ne hR 64 dX7_comes_59 (by decide) (fun c59 => ?_) (fun c59 => ?_)
                  · try simp (disch := omega) only [nI_ltI, nI_leI, nI_eq, bI_0, Decidable.not_not, lc_lt, lc_gt, lc_ge, lc_le, lc_eq, i64_toInt] at c59
                    try simp (disch := omega) only [cv_lt, cv_le, cv_eq, nI_toInt, cv_0] at c59
                    first
                    | omega
                    | refine r_aload0 hR dX7_comes_64 ?_
                      refine r_get hR (by first | decide | assumption | (simp only [gcnt_4, gcnt_1, gcnt_2, gcnt_3, gcnt_12, gcnt_13, gcnt_16]; omega)) fl_X7_10 rfl rfl dX7_comes_65 ?_
                      try simp only [s0, s2, s3, s4]
                      refine r_aload0 hR dX7_comes_68 ?_
                      refine r_get hR (by first | decide | assumption | (simp only [gcnt_4, gcnt_1, gcnt_2, gcnt_3, gcnt_12, gcnt_13, gcnt_16]; omega)) fl_X7_29 rfl rfl dX7_comes_69 ?_
                      try simp only [s0, s2, s3, s4]
                      refine r_iload3 hR dX7_comes_72 ?_
                      refine r_cv2u hR kv_X7_185 (by decide) (t_X1_carry (by decide) (seaP_eqX (eqX_putTh M (by decide)) w3 hc.1) hwf (by decide) (by simp [putTh_r]) (by simp [putTh_r]) (by simp [putTh_r]) (by simp [putTh_r]) q0 q2 (day_b (d := i) hwf htt).1 (day_b (d := i) hwf htt).2 (by omega)) (by first | decide | assumption | (simp only [gcnt_4, gcnt_1, gcnt_2, gcnt_3, gcnt_12, gcnt_13, gcnt_16]; omega)) rfl rfl (Nat.le_of_ble_eq_true rfl) dX7_comes_73 ?_
                      refine r_iinc3 hR (nI 1) (by decide) (fun _ h => by first | (cases h; rfl) | exact absurd h (by simp)) dX7_comes_76 ?_
                      try rw [nI_add]
                      refine r_goto hR 45 dX7_comes_79 (by decide) ?_
                      have ef : firstN (fun d => thg (dayN d (aS A)) t 1 == ce) (j + 1) i = firstN (fun d => thg (dayN d (aS A)) t 1 == ce) j (i + 1) := by
                        conv => lhs; unfold firstN
                        rw [if_neg (by simp [c59])]
                      rw [putTh_step, ← day_c htt, ← day_s htt]
                      exact ih (i + 1) (by omega) (by rw [← ef]; exact hf)
                  · try simp (disch := omega) only [nI_ltI, nI_leI, nI_eq, bI_0, Decidable.not_not, lc_lt, lc_gt, lc_ge, lc_le, lc_eq, i64_toInt] at c59
                    try simp (disch := omega) only [cv_lt, cv_le, cv_eq, nI_toInt, cv_0] at c59
                    first
                    | omega
                    | refine r_iload3 hR dX7_comes_62 ?_
                      refine r_iret hR dX7_comes_63 ?_
                      have ef : firstN (fun d => thg (dayN d (aS A)) t 1 == ce) (j + 1) i = i := by
                        unfold firstN
                        rw [if_pos (by simp [c59])]
                      refine Qc_eqX (A := A) (eqX_putTh M (by decide)) w3 hK8 hc ?_
                      rw [e, ← hf, ef, if_neg (by omega)]
          refine r_aload0 hR dX7_comes_27 ?_
          refine r_get hR (by first | decide | assumption | (simp only [gcnt_4, gcnt_1, gcnt_2, gcnt_3, gcnt_12, gcnt_13, gcnt_16]; omega)) fl_X7_29 rfl rfl dX7_comes_28 ?_
          try simp only [s0, s2, s3, s4]
          refine r_aload0 hR dX7_comes_31 ?_
          refine r_get hR (by first | decide | assumption | (simp only [gcnt_4, gcnt_1, gcnt_2, gcnt_3, gcnt_12, gcnt_13, gcnt_16]; omega)) fl_X7_10 rfl rfl dX7_comes_32 ?_
          try simp only [s0, s2, s3, s4]
          refine r_get hR (by first | decide | assumption | (simp only [gcnt_4, gcnt_1, gcnt_2, gcnt_3, gcnt_12, gcnt_13, gcnt_16]; omega)) fl_X7_124 rfl rfl dX7_comes_35 ?_
          try simp only [s0, s2, s3, s4]
          refine r_iload1 hR dX7_comes_38 ?_
          refine r_aald hR (t0 := 3) (by first | decide | assumption | (simp only [gcnt_4, gcnt_1, gcnt_2, gcnt_3, gcnt_12, gcnt_13, gcnt_16]; omega)) rfl rfl rfl (by omega) (by decide) rfl dX7_comes_39 ?_
          refine r_cv1u hR kv_X7_181 (by decide) (t_X5_become (by decide) (by omega)) (by first | decide | assumption | (simp only [gcnt_4, gcnt_1, gcnt_2, gcnt_3, gcnt_12, gcnt_13, gcnt_16]; omega)) rfl rfl (Nat.le_of_ble_eq_true rfl) dX7_comes_40 ?_
          rw [k0, k1, k2, k3]
          refine r_iconst hR (nI 0) (by decide) dX7_comes_43 ?_
          refine r_istore3 hR (fun _ h => by first | (cases h; rfl) | exact absurd h (by simp)) dX7_comes_44 ?_
          exact L 61 0 rfl rfl
      · try simp (disch := omega) only [nI_ltI, nI_leI, nI_eq, bI_0, Decidable.not_not, lc_lt, lc_gt, lc_ge, lc_le, lc_eq, i64_toInt] at c17
        try simp (disch := omega) only [cv_lt, cv_le, cv_eq, nI_toInt, cv_0] at c17
        first
        | omega
        | refine r_aload0 hR dX7_comes_20 ?_
          refine r_ldc hR ct_X7_81 dX7_comes_21 ?_
          refine r_cv1v hR kv_X7_82 (by decide) (t_X7_findingC (n := 0) (by decide) (by decide)) (by first | decide | assumption | (simp only [gcnt_4, gcnt_1, gcnt_2, gcnt_3, gcnt_12, gcnt_13, gcnt_16]; omega)) rfl rfl (Nat.le_of_ble_eq_true rfl) dX7_comes_23 ?_
          refine r_iret hR dX7_comes_26 ?_
          refine Qc_fnd hc (by decide) ?_
          unfold oComes
          dsimp only [okI, okT]
          (repeat' split) <;> first | rfl | omega

set_option maxHeartbeats 4000000 in
set_option maxRecDepth 100000 in
theorem t_X7_meet {G : gG} {M : gM} {A : gA} {x y : Int32} (hc : clsP M A) (hw : wfA A) : Ct G mX7_meet 5 [.ref (ad G 0 0), .int x, .int y] M (Qc M (oMeet A x y)) := by
  obtain ⟨hwf, hday, hwk, hk2, hl, hT, hsh⟩ := id hw
  obtain ⟨w0, w1, w2, w3, wr, wt⟩ := id hwf
  obtain ⟨s0, s2, s3, s4, sr, sth⟩ := id hc.1
  have hK8 : ak A = 1 → aK A 3 ≤ 8 := fun z => (hwk z).1.2.2.2.1
  refine Ct.of (by decide +kernel) (k := 1) (ls0 := [some (.ref (ad G 0 0)), some (.int x), some (.int y), none]) rfl rfl (fun _ _ => trivial) ?_
  intro P hR
  refine r_aload0 hR dX7_meet_0 ?_
  refine r_get hR (by first | decide | assumption | (simp only [gcnt_4, gcnt_1, gcnt_2, gcnt_3, gcnt_12, gcnt_13, gcnt_16]; omega)) fl_X7_10 rfl rfl dX7_meet_1 ?_
  try simp only [s0, s2, s3, s4]
  refine r_iload1 hR dX7_meet_4 ?_
  refine r_cv1v hR kv_X7_121 (by decide) (t_X1_has (by decide) hc.1 w3) (by first | decide | assumption | (simp only [gcnt_4, gcnt_1, gcnt_2, gcnt_3, gcnt_12, gcnt_13, gcnt_16]; omega)) rfl rfl (Nat.le_of_ble_eq_true rfl) dX7_meet_5 ?_
  refine r_if_eq hR 27 dX7_meet_8 (by decide) (fun c8 => ?_) (fun c8 => ?_)
  · try simp (disch := omega) only [nI_ltI, nI_leI, nI_eq, bI_0, Decidable.not_not, lc_lt, lc_gt, lc_ge, lc_le, lc_eq, i64_toInt] at c8
    try simp (disch := omega) only [cv_lt, cv_le, cv_eq, nI_toInt, cv_0] at c8
    first
    | omega
    | refine r_aload0 hR dX7_meet_27 ?_
      refine r_ldc hR ct_X7_81 dX7_meet_28 ?_
      refine r_cv1v hR kv_X7_82 (by decide) (t_X7_findingC (n := 0) (by decide) (by decide)) (by first | decide | assumption | (simp only [gcnt_4, gcnt_1, gcnt_2, gcnt_3, gcnt_12, gcnt_13, gcnt_16]; omega)) rfl rfl (Nat.le_of_ble_eq_true rfl) dX7_meet_30 ?_
      refine r_iret hR dX7_meet_33 ?_
      refine Qc_fnd hc (by decide) ?_
      unfold oMeet
      refine if_neg ?_
      rintro ⟨g1, g2, g3⟩
      dsimp only [okI, okT] at g1 g2
      simp only [cv_eq] at g3
      omega
  · try simp (disch := omega) only [nI_ltI, nI_leI, nI_eq, bI_0, Decidable.not_not, lc_lt, lc_gt, lc_ge, lc_le, lc_eq, i64_toInt] at c8
    try simp (disch := omega) only [cv_lt, cv_le, cv_eq, nI_toInt, cv_0] at c8
    first
    | omega
    | refine r_aload0 hR dX7_meet_11 ?_
      refine r_get hR (by first | decide | assumption | (simp only [gcnt_4, gcnt_1, gcnt_2, gcnt_3, gcnt_12, gcnt_13, gcnt_16]; omega)) fl_X7_10 rfl rfl dX7_meet_12 ?_
      try simp only [s0, s2, s3, s4]
      refine r_iload2 hR dX7_meet_15 ?_
      refine r_cv1v hR kv_X7_121 (by decide) (t_X1_has (by decide) hc.1 w3) (by first | decide | assumption | (simp only [gcnt_4, gcnt_1, gcnt_2, gcnt_3, gcnt_12, gcnt_13, gcnt_16]; omega)) rfl rfl (Nat.le_of_ble_eq_true rfl) dX7_meet_16 ?_
      refine r_if_eq hR 27 dX7_meet_19 (by decide) (fun c19 => ?_) (fun c19 => ?_)
      · try simp (disch := omega) only [nI_ltI, nI_leI, nI_eq, bI_0, Decidable.not_not, lc_lt, lc_gt, lc_ge, lc_le, lc_eq, i64_toInt] at c19
        try simp (disch := omega) only [cv_lt, cv_le, cv_eq, nI_toInt, cv_0] at c19
        first
        | omega
        | refine r_aload0 hR dX7_meet_27 ?_
          refine r_ldc hR ct_X7_81 dX7_meet_28 ?_
          refine r_cv1v hR kv_X7_82 (by decide) (t_X7_findingC (n := 0) (by decide) (by decide)) (by first | decide | assumption | (simp only [gcnt_4, gcnt_1, gcnt_2, gcnt_3, gcnt_12, gcnt_13, gcnt_16]; omega)) rfl rfl (Nat.le_of_ble_eq_true rfl) dX7_meet_30 ?_
          refine r_iret hR dX7_meet_33 ?_
          refine Qc_fnd hc (by decide) ?_
          unfold oMeet
          refine if_neg ?_
          rintro ⟨g1, g2, g3⟩
          dsimp only [okI, okT] at g1 g2
          simp only [cv_eq] at g3
          omega
      · try simp (disch := omega) only [nI_ltI, nI_leI, nI_eq, bI_0, Decidable.not_not, lc_lt, lc_gt, lc_ge, lc_le, lc_eq, i64_toInt] at c19
        try simp (disch := omega) only [cv_lt, cv_le, cv_eq, nI_toInt, cv_0] at c19
        first
        | omega
        | refine r_iload1 hR dX7_meet_22 ?_
          refine r_iload2 hR dX7_meet_23 ?_
          refine r_icmp_ne hR 34 dX7_meet_24 (by decide) (fun c24 => ?_) (fun c24 => ?_)
          · try simp (disch := omega) only [nI_ltI, nI_leI, nI_eq, bI_0, Decidable.not_not, lc_lt, lc_gt, lc_ge, lc_le, lc_eq, i64_toInt] at c24
            try simp (disch := omega) only [cv_lt, cv_le, cv_eq, nI_toInt, cv_0] at c24
            first
            | omega
            | obtain ⟨t, ht0, rfl⟩ := of_in (x := x) (N := aS A 3 - 1) (by omega)
              have htt : t < aS A 3 := by rw [nI_toInt (by omega)] at c8; omega
              have k0 : M.1 4 (8 * 0 + t) 0 = nI (thg (aS A) t 0) := sth t htt 0 (by decide)
              have k1 : M.1 4 (8 * 0 + t) 1 = nI (thg (aS A) t 1) := sth t htt 1 (by decide)
              have k2 : M.1 4 (8 * 0 + t) 2 = nI (thg (aS A) t 2) := sth t htt 2 (by decide)
              have k3 : M.1 4 (8 * 0 + t) 3 = nI (thg (aS A) t 3) := sth t htt 3 (by decide)
              have q0 : thg (aS A) t 0 < 6 := by have := wt t htt; unfold thg; rw [Nat.add_zero]; omega
              have q1 : thg (aS A) t 1 < 36 := by have := wt t htt; unfold thg; omega
              have q2 : thg (aS A) t 2 < 8 := by have := wt t htt; unfold thg; omega
              have q3 : thg (aS A) t 3 ≤ 99999 := by have := wt t htt; unfold thg; omega
              obtain ⟨u, hu0, rfl⟩ := of_in (x := y) (N := aS A 3 - 1) (by omega)
              have huu : u < aS A 3 := by rw [nI_toInt (by omega)] at c19; omega
              have j0 : M.1 4 (8 * 0 + u) 0 = nI (thg (aS A) u 0) := sth u huu 0 (by decide)
              have j1 : M.1 4 (8 * 0 + u) 1 = nI (thg (aS A) u 1) := sth u huu 1 (by decide)
              have j2 : M.1 4 (8 * 0 + u) 2 = nI (thg (aS A) u 2) := sth u huu 2 (by decide)
              have j3 : M.1 4 (8 * 0 + u) 3 = nI (thg (aS A) u 3) := sth u huu 3 (by decide)
              have r0 : thg (aS A) u 0 < 6 := by have := wt u huu; unfold thg; rw [Nat.add_zero]; omega
              have r1 : thg (aS A) u 1 < 36 := by have := wt u huu; unfold thg; omega
              have r2 : thg (aS A) u 2 < 8 := by have := wt u huu; unfold thg; omega
              have r3 : thg (aS A) u 3 ≤ 99999 := by have := wt u huu; unfold thg; omega
              simp (disch := omega) only [nI_toInt] at c24
              have e : oMeet A (nI t) (nI u) = if firstN (fun d => thg (dayN d (aS A)) t 1 == thg (dayN d (aS A)) u 1) 61 0 = 61 then fnd A 3 else (nI (firstN (fun d => thg (dayN d (aS A)) t 1 == thg (dayN d (aS A)) u 1) 61 0), A) := by
                unfold oMeet
                rw [if_pos (by simp (disch := omega) only [okI, okT, nI_toInt, nI_eq]; omega)]
                simp (disch := omega) only [uN_nI]
              have L : ∀ (j i : Nat), i + j = 61 → firstN (fun d => thg (dayN d (aS A)) t 1 == thg (dayN d (aS A)) u 1) j i = firstN (fun d => thg (dayN d (aS A)) t 1 == thg (dayN d (aS A)) u 1) 61 0 → P 68 [some (.ref (ad G 0 0)), some (.int (nI t)), some (.int (nI u)), some (.int (nI i))] [] (putTh (putTh M 24 (thg (aS A) t 0) (thg (dayN i (aS A)) t 1) (thg (aS A) t 2) (thg (dayN i (aS A)) t 3)) 25 (thg (aS A) u 0) (thg (dayN i (aS A)) u 1) (thg (aS A) u 2) (thg (dayN i (aS A)) u 3)) := by
                intro j
                induction j with
                | zero =>
                  intro i  hij hf
                  refine r_iload3 hR dX7_meet_68 ?_
                  refine r_bipush hR (nI 60) (by decide) dX7_meet_69 ?_
                  refine r_icmp_gt hR 123 dX7_meet_71 (by decide) (fun c71 => ?_) (fun c71 => ?_)
                  · try simp (disch := omega) only [nI_ltI, nI_leI, nI_eq, bI_0, Decidable.not_not, lc_lt, lc_gt, lc_ge, lc_le, lc_eq, i64_toInt] at c71
                    try simp (disch := omega) only [cv_lt, cv_le, cv_eq, nI_toInt, cv_0] at c71
                    first
                    | omega
                    | refine r_aload0 hR dX7_meet_123 ?_
                      refine r_ldc hR ct_X7_108 dX7_meet_124 ?_
                      refine r_cv1v hR kv_X7_82 (by decide) (t_X7_findingC (n := 3) (by decide) (by decide)) (by first | decide | assumption | (simp only [gcnt_4, gcnt_1, gcnt_2, gcnt_3, gcnt_12, gcnt_13, gcnt_16]; omega)) rfl rfl (Nat.le_of_ble_eq_true rfl) dX7_meet_126 ?_
                      refine r_iret hR dX7_meet_129 ?_
                      obtain rfl : i = 61 := by omega
                      refine Qc_fndX (A := A) ((eqX_putTh M (by decide)).tr (eqX_putTh _ (by decide))) w3 hK8 hc (by decide) ?_
                      rw [e, ← hf]
                      exact if_pos rfl
                  · try simp (disch := omega) only [nI_ltI, nI_leI, nI_eq, bI_0, Decidable.not_not, lc_lt, lc_gt, lc_ge, lc_le, lc_eq, i64_toInt] at c71
                    try simp (disch := omega) only [cv_lt, cv_le, cv_eq, nI_toInt, cv_0] at c71
                    first
                    | omega
                    | refine r_aload0 hR dX7_meet_74 ?_
                      refine r_get hR (by first | decide | assumption | (simp only [gcnt_4, gcnt_1, gcnt_2, gcnt_3, gcnt_12, gcnt_13, gcnt_16]; omega)) fl_X7_29 rfl rfl dX7_meet_75 ?_
                      try simp only [s0, s2, s3, s4]
                      refine r_get hR (by first | decide | assumption | (simp only [gcnt_4, gcnt_1, gcnt_2, gcnt_3, gcnt_12, gcnt_13, gcnt_16]; omega)) fl_X7_134 rfl rfl dX7_meet_78 ?_
                      try simp only [s0, s2, s3, s4]
                      refine r_nm (nI (thg (dayN i (aS A)) t 1)) (by simp [putTh_r]) ?_
                      have hcb := (day_b (d := i) hwf htt).1
                      have hcu := (day_b (d := i) hwf huu).1
                      refine r_aload0 hR dX7_meet_81 ?_
                      refine r_get hR (by first | decide | assumption | (simp only [gcnt_4, gcnt_1, gcnt_2, gcnt_3, gcnt_12, gcnt_13, gcnt_16]; omega)) fl_X7_33 rfl rfl dX7_meet_82 ?_
                      try simp only [s0, s2, s3, s4]
                      refine r_get hR (by first | decide | assumption | (simp only [gcnt_4, gcnt_1, gcnt_2, gcnt_3, gcnt_12, gcnt_13, gcnt_16]; omega)) fl_X7_134 rfl rfl dX7_meet_85 ?_
                      try simp only [s0, s2, s3, s4]
                      refine r_nm (nI (thg (dayN i (aS A)) u 1)) (by simp [putTh_r]) ?_
                      refine r_icmp_ne hR 93 dX7_meet_88 (by decide) (fun c88 => ?_) (fun c88 => ?_)
                      · try simp (disch := omega) only [nI_ltI, nI_leI, nI_eq, bI_0, Decidable.not_not, lc_lt, lc_gt, lc_ge, lc_le, lc_eq, i64_toInt] at c88
                        try simp (disch := omega) only [cv_lt, cv_le, cv_eq, nI_toInt, cv_0] at c88
                        first
                        | omega
                        | refine r_aload0 hR dX7_meet_93 ?_
                          refine r_get hR (by first | decide | assumption | (simp only [gcnt_4, gcnt_1, gcnt_2, gcnt_3, gcnt_12, gcnt_13, gcnt_16]; omega)) fl_X7_10 rfl rfl dX7_meet_94 ?_
                          try simp only [s0, s2, s3, s4]
                          refine r_aload0 hR dX7_meet_97 ?_
                          refine r_get hR (by first | decide | assumption | (simp only [gcnt_4, gcnt_1, gcnt_2, gcnt_3, gcnt_12, gcnt_13, gcnt_16]; omega)) fl_X7_29 rfl rfl dX7_meet_98 ?_
                          try simp only [s0, s2, s3, s4]
                          refine r_iload3 hR dX7_meet_101 ?_
                          refine r_cv2u hR kv_X7_185 (by decide) (t_X1_carry (by decide) (seaP_eqX ((eqX_putTh M (by decide)).tr (eqX_putTh _ (by decide))) w3 hc.1) hwf (by decide) (by simp [putTh_r]) (by simp [putTh_r]) (by simp [putTh_r]) (by simp [putTh_r]) q0 q2 (day_b (d := i) hwf htt).1 (day_b (d := i) hwf htt).2 (by omega)) (by first | decide | assumption | (simp only [gcnt_4, gcnt_1, gcnt_2, gcnt_3, gcnt_12, gcnt_13, gcnt_16]; omega)) rfl rfl (Nat.le_of_ble_eq_true rfl) dX7_meet_102 ?_
                          rw [meet_step]
                          refine r_aload0 hR dX7_meet_105 ?_
                          refine r_get hR (by first | decide | assumption | (simp only [gcnt_4, gcnt_1, gcnt_2, gcnt_3, gcnt_12, gcnt_13, gcnt_16]; omega)) fl_X7_10 rfl rfl dX7_meet_106 ?_
                          try simp only [s0, s2, s3, s4]
                          refine r_aload0 hR dX7_meet_109 ?_
                          refine r_get hR (by first | decide | assumption | (simp only [gcnt_4, gcnt_1, gcnt_2, gcnt_3, gcnt_12, gcnt_13, gcnt_16]; omega)) fl_X7_33 rfl rfl dX7_meet_110 ?_
                          try simp only [s0, s2, s3, s4]
                          refine r_iload3 hR dX7_meet_113 ?_
                          refine r_cv2u hR kv_X7_185 (by decide) (t_X1_carry (by decide) (seaP_eqX ((eqX_putTh M (by decide)).tr (eqX_putTh _ (by decide))) w3 hc.1) hwf (by decide) (by simp [putTh_r]) (by simp [putTh_r]) (by simp [putTh_r]) (by simp [putTh_r]) r0 r2 (day_b (d := i) hwf huu).1 (day_b (d := i) hwf huu).2 (by omega)) (by first | decide | assumption | (simp only [gcnt_4, gcnt_1, gcnt_2, gcnt_3, gcnt_12, gcnt_13, gcnt_16]; omega)) rfl rfl (Nat.le_of_ble_eq_true rfl) dX7_meet_114 ?_
                          refine r_iinc3 hR (nI 1) (by decide) (fun _ h => by first | (cases h; rfl) | exact absurd h (by simp)) dX7_meet_117 ?_
                          try rw [nI_add]
                          refine r_goto hR 68 dX7_meet_120 (by decide) ?_
                          omega
                      · try simp (disch := omega) only [nI_ltI, nI_leI, nI_eq, bI_0, Decidable.not_not, lc_lt, lc_gt, lc_ge, lc_le, lc_eq, i64_toInt] at c88
                        try simp (disch := omega) only [cv_lt, cv_le, cv_eq, nI_toInt, cv_0] at c88
                        first
                        | omega
                        | refine r_iload3 hR dX7_meet_91 ?_
                          refine r_iret hR dX7_meet_92 ?_
                          omega
                | succ j ih =>
                  intro i  hij hf
                  refine r_iload3 hR dX7_meet_68 ?_
                  refine r_bipush hR (nI 60) (by decide) dX7_meet_69 ?_
                  refine r_icmp_gt hR 123 dX7_meet_71 (by decide) (fun c71 => ?_) (fun c71 => ?_)
                  · try simp (disch := omega) only [nI_ltI, nI_leI, nI_eq, bI_0, Decidable.not_not, lc_lt, lc_gt, lc_ge, lc_le, lc_eq, i64_toInt] at c71
                    try simp (disch := omega) only [cv_lt, cv_le, cv_eq, nI_toInt, cv_0] at c71
                    first
                    | omega
                    | refine r_aload0 hR dX7_meet_123 ?_
                      refine r_ldc hR ct_X7_108 dX7_meet_124 ?_
                      refine r_cv1v hR kv_X7_82 (by decide) (t_X7_findingC (n := 3) (by decide) (by decide)) (by first | decide | assumption | (simp only [gcnt_4, gcnt_1, gcnt_2, gcnt_3, gcnt_12, gcnt_13, gcnt_16]; omega)) rfl rfl (Nat.le_of_ble_eq_true rfl) dX7_meet_126 ?_
                      refine r_iret hR dX7_meet_129 ?_
                      omega
                  · try simp (disch := omega) only [nI_ltI, nI_leI, nI_eq, bI_0, Decidable.not_not, lc_lt, lc_gt, lc_ge, lc_le, lc_eq, i64_toInt] at c71
                    try simp (disch := omega) only [cv_lt, cv_le, cv_eq, nI_toInt, cv_0] at c71
                    first
                    | omega
                    | refine r_aload0 hR dX7_meet_74 ?_
                      refine r_get hR (by first | decide | assumption | (simp only [gcnt_4, gcnt_1, gcnt_2, gcnt_3, gcnt_12, gcnt_13, gcnt_16]; omega)) fl_X7_29 rfl rfl dX7_meet_75 ?_
                      try simp only [s0, s2, s3, s4]
                      refine r_get hR (by first | decide | assumption | (simp only [gcnt_4, gcnt_1, gcnt_2, gcnt_3, gcnt_12, gcnt_13, gcnt_16]; omega)) fl_X7_134 rfl rfl dX7_meet_78 ?_
                      try simp only [s0, s2, s3, s4]
                      refine r_nm (nI (thg (dayN i (aS A)) t 1)) (by simp [putTh_r]) ?_
                      have hcb := (day_b (d := i) hwf htt).1
                      have hcu := (day_b (d := i) hwf huu).1
                      refine r_aload0 hR dX7_meet_81 ?_
                      refine r_get hR (by first | decide | assumption | (simp only [gcnt_4, gcnt_1, gcnt_2, gcnt_3, gcnt_12, gcnt_13, gcnt_16]; omega)) fl_X7_33 rfl rfl dX7_meet_82 ?_
                      try simp only [s0, s2, s3, s4]
                      refine r_get hR (by first | decide | assumption | (simp only [gcnt_4, gcnt_1, gcnt_2, gcnt_3, gcnt_12, gcnt_13, gcnt_16]; omega)) fl_X7_134 rfl rfl dX7_meet_85 ?_
                      try simp only [s0, s2, s3, s4]
                      refine r_nm (nI (thg (dayN i (aS A)) u 1)) (by simp [putTh_r]) ?_
                      refine r_icmp_ne hR 93 dX7_meet_88 (by decide) (fun c88 => ?_) (fun c88 => ?_)
                      · try simp (disch := omega) only [nI_ltI, nI_leI, nI_eq, bI_0, Decidable.not_not, lc_lt, lc_gt, lc_ge, lc_le, lc_eq, i64_toInt] at c88
                        try simp (disch := omega) only [cv_lt, cv_le, cv_eq, nI_toInt, cv_0] at c88
                        first
                        | omega
                        | refine r_aload0 hR dX7_meet_93 ?_
                          refine r_get hR (by first | decide | assumption | (simp only [gcnt_4, gcnt_1, gcnt_2, gcnt_3, gcnt_12, gcnt_13, gcnt_16]; omega)) fl_X7_10 rfl rfl dX7_meet_94 ?_
                          try simp only [s0, s2, s3, s4]
                          refine r_aload0 hR dX7_meet_97 ?_
                          refine r_get hR (by first | decide | assumption | (simp only [gcnt_4, gcnt_1, gcnt_2, gcnt_3, gcnt_12, gcnt_13, gcnt_16]; omega)) fl_X7_29 rfl rfl dX7_meet_98 ?_
                          try simp only [s0, s2, s3, s4]
                          refine r_iload3 hR dX7_meet_101 ?_
                          refine r_cv2u hR kv_X7_185 (by decide) (t_X1_carry (by decide) (seaP_eqX ((eqX_putTh M (by decide)).tr (eqX_putTh _ (by decide))) w3 hc.1) hwf (by decide) (by simp [putTh_r]) (by simp [putTh_r]) (by simp [putTh_r]) (by simp [putTh_r]) q0 q2 (day_b (d := i) hwf htt).1 (day_b (d := i) hwf htt).2 (by omega)) (by first | decide | assumption | (simp only [gcnt_4, gcnt_1, gcnt_2, gcnt_3, gcnt_12, gcnt_13, gcnt_16]; omega)) rfl rfl (Nat.le_of_ble_eq_true rfl) dX7_meet_102 ?_
                          rw [meet_step]
                          refine r_aload0 hR dX7_meet_105 ?_
                          refine r_get hR (by first | decide | assumption | (simp only [gcnt_4, gcnt_1, gcnt_2, gcnt_3, gcnt_12, gcnt_13, gcnt_16]; omega)) fl_X7_10 rfl rfl dX7_meet_106 ?_
                          try simp only [s0, s2, s3, s4]
                          refine r_aload0 hR dX7_meet_109 ?_
                          refine r_get hR (by first | decide | assumption | (simp only [gcnt_4, gcnt_1, gcnt_2, gcnt_3, gcnt_12, gcnt_13, gcnt_16]; omega)) fl_X7_33 rfl rfl dX7_meet_110 ?_
                          try simp only [s0, s2, s3, s4]
                          refine r_iload3 hR dX7_meet_113 ?_
                          refine r_cv2u hR kv_X7_185 (by decide) (t_X1_carry (by decide) (seaP_eqX ((eqX_putTh M (by decide)).tr (eqX_putTh _ (by decide))) w3 hc.1) hwf (by decide) (by simp [putTh_r]) (by simp [putTh_r]) (by simp [putTh_r]) (by simp [putTh_r]) r0 r2 (day_b (d := i) hwf huu).1 (day_b (d := i) hwf huu).2 (by omega)) (by first | decide | assumption | (simp only [gcnt_4, gcnt_1, gcnt_2, gcnt_3, gcnt_12, gcnt_13, gcnt_16]; omega)) rfl rfl (Nat.le_of_ble_eq_true rfl) dX7_meet_114 ?_
                          refine r_iinc3 hR (nI 1) (by decide) (fun _ h => by first | (cases h; rfl) | exact absurd h (by simp)) dX7_meet_117 ?_
                          try rw [nI_add]
                          refine r_goto hR 68 dX7_meet_120 (by decide) ?_
                          have ef : firstN (fun d => thg (dayN d (aS A)) t 1 == thg (dayN d (aS A)) u 1) (j + 1) i = firstN (fun d => thg (dayN d (aS A)) t 1 == thg (dayN d (aS A)) u 1) j (i + 1) := by
                            conv => lhs; unfold firstN
                            rw [if_neg (by simp [c88])]
                          refine r_mem (M2 := (putTh (putTh M 24 (thg (aS A) t 0) (thg (dayN (i + 1) (aS A)) t 1) (thg (aS A) t 2) (thg (dayN (i + 1) (aS A)) t 3)) 25 (thg (aS A) u 0) (thg (dayN (i + 1) (aS A)) u 1) (thg (aS A) u 2) (thg (dayN (i + 1) (aS A)) u 3))) ?_ (ih (i + 1) (by omega) (by rw [← ef]; exact hf))
                          rw [putTh_step, day_c htt, day_s htt, day_c huu, day_s huu]
                      · try simp (disch := omega) only [nI_ltI, nI_leI, nI_eq, bI_0, Decidable.not_not, lc_lt, lc_gt, lc_ge, lc_le, lc_eq, i64_toInt] at c88
                        try simp (disch := omega) only [cv_lt, cv_le, cv_eq, nI_toInt, cv_0] at c88
                        first
                        | omega
                        | refine r_iload3 hR dX7_meet_91 ?_
                          refine r_iret hR dX7_meet_92 ?_
                          have ef : firstN (fun d => thg (dayN d (aS A)) t 1 == thg (dayN d (aS A)) u 1) (j + 1) i = i := by
                            unfold firstN
                            rw [if_pos (by simp [c88])]
                          refine Qc_eqX (A := A) ((eqX_putTh M (by decide)).tr (eqX_putTh _ (by decide))) w3 hK8 hc ?_
                          rw [e, ← hf, ef, if_neg (by omega)]
              refine r_aload0 hR dX7_meet_34 ?_
              refine r_get hR (by first | decide | assumption | (simp only [gcnt_4, gcnt_1, gcnt_2, gcnt_3, gcnt_12, gcnt_13, gcnt_16]; omega)) fl_X7_29 rfl rfl dX7_meet_35 ?_
              try simp only [s0, s2, s3, s4]
              refine r_aload0 hR dX7_meet_38 ?_
              refine r_get hR (by first | decide | assumption | (simp only [gcnt_4, gcnt_1, gcnt_2, gcnt_3, gcnt_12, gcnt_13, gcnt_16]; omega)) fl_X7_10 rfl rfl dX7_meet_39 ?_
              try simp only [s0, s2, s3, s4]
              refine r_get hR (by first | decide | assumption | (simp only [gcnt_4, gcnt_1, gcnt_2, gcnt_3, gcnt_12, gcnt_13, gcnt_16]; omega)) fl_X7_124 rfl rfl dX7_meet_42 ?_
              try simp only [s0, s2, s3, s4]
              refine r_iload1 hR dX7_meet_45 ?_
              refine r_aald hR (t0 := 3) (by first | decide | assumption | (simp only [gcnt_4, gcnt_1, gcnt_2, gcnt_3, gcnt_12, gcnt_13, gcnt_16]; omega)) rfl rfl rfl (by omega) (by decide) rfl dX7_meet_46 ?_
              refine r_cv1u hR kv_X7_181 (by decide) (t_X5_become (by decide) (by omega)) (by first | decide | assumption | (simp only [gcnt_4, gcnt_1, gcnt_2, gcnt_3, gcnt_12, gcnt_13, gcnt_16]; omega)) rfl rfl (Nat.le_of_ble_eq_true rfl) dX7_meet_47 ?_
              rw [k0, k1, k2, k3]
              refine r_mem (M2 := (putTh M 24 (thg (aS A) t 0) (thg (aS A) t 1) (thg (aS A) t 2) (thg (aS A) t 3))) rfl ?_
              refine r_aload0 hR dX7_meet_50 ?_
              refine r_get hR (by first | decide | assumption | (simp only [gcnt_4, gcnt_1, gcnt_2, gcnt_3, gcnt_12, gcnt_13, gcnt_16]; omega)) fl_X7_33 rfl rfl dX7_meet_51 ?_
              try simp only [s0, s2, s3, s4]
              refine r_aload0 hR dX7_meet_54 ?_
              refine r_get hR (by first | decide | assumption | (simp only [gcnt_4, gcnt_1, gcnt_2, gcnt_3, gcnt_12, gcnt_13, gcnt_16]; omega)) fl_X7_10 rfl rfl dX7_meet_55 ?_
              try simp only [s0, s2, s3, s4]
              refine r_get hR (by first | decide | assumption | (simp only [gcnt_4, gcnt_1, gcnt_2, gcnt_3, gcnt_12, gcnt_13, gcnt_16]; omega)) fl_X7_124 rfl rfl dX7_meet_58 ?_
              try simp only [s0, s2, s3, s4]
              refine r_iload2 hR dX7_meet_61 ?_
              refine r_aald hR (t0 := 3) (by first | decide | assumption | (simp only [gcnt_4, gcnt_1, gcnt_2, gcnt_3, gcnt_12, gcnt_13, gcnt_16]; omega)) rfl rfl rfl (by omega) (by decide) rfl dX7_meet_62 ?_
              refine r_cv1u hR kv_X7_181 (by decide) (t_X5_become (by decide) (by omega)) (by first | decide | assumption | (simp only [gcnt_4, gcnt_1, gcnt_2, gcnt_3, gcnt_12, gcnt_13, gcnt_16]; omega)) rfl rfl (Nat.le_of_ble_eq_true rfl) dX7_meet_63 ?_
              refine r_mem (M2 := (putTh (putTh M 24 (thg (aS A) t 0) (thg (dayN 0 (aS A)) t 1) (thg (aS A) t 2) (thg (dayN 0 (aS A)) t 3)) 25 (thg (aS A) u 0) (thg (dayN 0 (aS A)) u 1) (thg (aS A) u 2) (thg (dayN 0 (aS A)) u 3))) (by rw [(eqX_putTh M (k := thg (aS A) t 0) (c := thg (aS A) t 1) (f := thg (aS A) t 2) (s := thg (aS A) t 3) (show 24 ≤ 24 by decide)).1 4 (8 * 0 + u) (by unfold scr; omega), j0, j1, j2, j3]; rfl) ?_
              refine r_iconst hR (nI 0) (by decide) dX7_meet_66 ?_
              refine r_istore3 hR (fun _ h => by first | (cases h; rfl) | exact absurd h (by simp)) dX7_meet_67 ?_
              exact L 61 0 rfl rfl
          · try simp (disch := omega) only [nI_ltI, nI_leI, nI_eq, bI_0, Decidable.not_not, lc_lt, lc_gt, lc_ge, lc_le, lc_eq, i64_toInt] at c24
            try simp (disch := omega) only [cv_lt, cv_le, cv_eq, nI_toInt, cv_0] at c24
            first
            | omega
            | refine r_aload0 hR dX7_meet_27 ?_
              refine r_ldc hR ct_X7_81 dX7_meet_28 ?_
              refine r_cv1v hR kv_X7_82 (by decide) (t_X7_findingC (n := 0) (by decide) (by decide)) (by first | decide | assumption | (simp only [gcnt_4, gcnt_1, gcnt_2, gcnt_3, gcnt_12, gcnt_13, gcnt_16]; omega)) rfl rfl (Nat.le_of_ble_eq_true rfl) dX7_meet_30 ?_
              refine r_iret hR dX7_meet_33 ?_
              refine Qc_fnd hc (by decide) ?_
              unfold oMeet
              refine if_neg ?_
              rintro ⟨g1, g2, g3⟩
              dsimp only [okI, okT] at g1 g2
              simp only [cv_eq] at g3
              omega

set_option maxHeartbeats 4000000 in
set_option maxRecDepth 100000 in
theorem t_X7_bribes {G : gG} {M : gM} {A : gA} {x y z : Int32} (hc : clsP M A) (hw : wfA A) : Ct G mX7_bribes 4 [.ref (ad G 0 0), .int x, .int y, .int z] M (Qc M (oBribes A x y z)) := by
  obtain ⟨hwf, hday, hwk, hk2, hl, hT, hsh⟩ := id hw
  obtain ⟨w0, w1, w2, w3, wr, wt⟩ := id hwf
  obtain ⟨s0, s2, s3, s4, sr, sth⟩ := id hc.1
  have hK8 : ak A = 1 → aK A 3 ≤ 8 := fun z => (hwk z).1.2.2.2.1
  refine Ct.of (by decide +kernel) (k := 3) (ls0 := [some (.ref (ad G 0 0)), some (.int x), some (.int y), some (.int z), none, none, none]) rfl rfl (fun _ _ => trivial) ?_
  intro P hR
  refine r_aload0 hR dX7_bribes_0 ?_
  refine r_get hR (by first | decide | assumption | (simp only [gcnt_4, gcnt_1, gcnt_2, gcnt_3, gcnt_12, gcnt_13, gcnt_16]; omega)) fl_X7_10 rfl rfl dX7_bribes_1 ?_
  try simp only [s0, s2, s3, s4]
  refine r_iload1 hR dX7_bribes_4 ?_
  refine r_cv1v hR kv_X7_121 (by decide) (t_X1_has (by decide) hc.1 w3) (by first | decide | assumption | (simp only [gcnt_4, gcnt_1, gcnt_2, gcnt_3, gcnt_12, gcnt_13, gcnt_16]; omega)) rfl rfl (Nat.le_of_ble_eq_true rfl) dX7_bribes_5 ?_
  refine r_if_eq hR 29 dX7_bribes_8 (by decide) (fun c8 => ?_) (fun c8 => ?_)
  · try simp (disch := omega) only [nI_ltI, nI_leI, nI_eq, bI_0, Decidable.not_not, lc_lt, lc_gt, lc_ge, lc_le, lc_eq, i64_toInt] at c8
    try simp (disch := omega) only [cv_lt, cv_le, cv_eq, nI_toInt, cv_0] at c8
    first
    | omega
    | refine r_aload0 hR dX7_bribes_29 ?_
      refine r_ldc hR ct_X7_81 dX7_bribes_30 ?_
      refine r_cv1v hR kv_X7_82 (by decide) (t_X7_findingC (n := 0) (by decide) (by decide)) (by first | decide | assumption | (simp only [gcnt_4, gcnt_1, gcnt_2, gcnt_3, gcnt_12, gcnt_13, gcnt_16]; omega)) rfl rfl (Nat.le_of_ble_eq_true rfl) dX7_bribes_32 ?_
      refine r_iret hR dX7_bribes_35 ?_
      refine Qc_fnd hc (by decide) ?_
      unfold oBribes
      dsimp only [okI, okT]
      (repeat' split) <;> first | rfl | omega
  · try simp (disch := omega) only [nI_ltI, nI_leI, nI_eq, bI_0, Decidable.not_not, lc_lt, lc_gt, lc_ge, lc_le, lc_eq, i64_toInt] at c8
    try simp (disch := omega) only [cv_lt, cv_le, cv_eq, nI_toInt, cv_0] at c8
    first
    | omega
    | refine r_iload2 hR dX7_bribes_11 ?_
      refine r_bipush hR (nI 35) (by decide) dX7_bribes_12 ?_
      refine r_cs2v hR ks_X7_77 (by decide) (t_X7_within) (Nat.le_of_ble_eq_true rfl) dX7_bribes_14 ?_
      refine r_if_eq hR 29 dX7_bribes_17 (by decide) (fun c17 => ?_) (fun c17 => ?_)
      · try simp (disch := omega) only [nI_ltI, nI_leI, nI_eq, bI_0, Decidable.not_not, lc_lt, lc_gt, lc_ge, lc_le, lc_eq, i64_toInt] at c17
        try simp (disch := omega) only [cv_lt, cv_le, cv_eq, nI_toInt, cv_0] at c17
        first
        | omega
        | refine r_aload0 hR dX7_bribes_29 ?_
          refine r_ldc hR ct_X7_81 dX7_bribes_30 ?_
          refine r_cv1v hR kv_X7_82 (by decide) (t_X7_findingC (n := 0) (by decide) (by decide)) (by first | decide | assumption | (simp only [gcnt_4, gcnt_1, gcnt_2, gcnt_3, gcnt_12, gcnt_13, gcnt_16]; omega)) rfl rfl (Nat.le_of_ble_eq_true rfl) dX7_bribes_32 ?_
          refine r_iret hR dX7_bribes_35 ?_
          refine Qc_fnd hc (by decide) ?_
          unfold oBribes
          dsimp only [okI, okT]
          (repeat' split) <;> first | rfl | omega
      · try simp (disch := omega) only [nI_ltI, nI_leI, nI_eq, bI_0, Decidable.not_not, lc_lt, lc_gt, lc_ge, lc_le, lc_eq, i64_toInt] at c17
        try simp (disch := omega) only [cv_lt, cv_le, cv_eq, nI_toInt, cv_0] at c17
        first
        | omega
        | refine r_iload3 hR dX7_bribes_20 ?_
          refine r_bipush hR (nI 30) (by decide) dX7_bribes_21 ?_
          refine r_cs2v hR ks_X7_77 (by decide) (t_X7_within) (Nat.le_of_ble_eq_true rfl) dX7_bribes_23 ?_
          refine r_if_ne hR 36 dX7_bribes_26 (by decide) (fun c26 => ?_) (fun c26 => ?_)
          · try simp (disch := omega) only [nI_ltI, nI_leI, nI_eq, bI_0, Decidable.not_not, lc_lt, lc_gt, lc_ge, lc_le, lc_eq, i64_toInt] at c26
            try simp (disch := omega) only [cv_lt, cv_le, cv_eq, nI_toInt, cv_0] at c26
            first
            | omega
            | obtain ⟨ce, hce, rfl⟩ := of_in (x := y) (N := 35) (by omega)
              obtain ⟨n, hn, rfl⟩ := of_in (x := z) (N := 30) (by omega)
              obtain ⟨t, ht0, rfl⟩ := of_in (x := x) (N := aS A 3 - 1) (by omega)
              have htt : t < aS A 3 := by rw [nI_toInt (by omega)] at c8; omega
              have k0 : M.1 4 (8 * 0 + t) 0 = nI (thg (aS A) t 0) := sth t htt 0 (by decide)
              have k1 : M.1 4 (8 * 0 + t) 1 = nI (thg (aS A) t 1) := sth t htt 1 (by decide)
              have k2 : M.1 4 (8 * 0 + t) 2 = nI (thg (aS A) t 2) := sth t htt 2 (by decide)
              have k3 : M.1 4 (8 * 0 + t) 3 = nI (thg (aS A) t 3) := sth t htt 3 (by decide)
              have q0 : thg (aS A) t 0 < 6 := by have := wt t htt; unfold thg; rw [Nat.add_zero]; omega
              have q1 : thg (aS A) t 1 < 36 := by have := wt t htt; unfold thg; omega
              have q2 : thg (aS A) t 2 < 8 := by have := wt t htt; unfold thg; omega
              have q3 : thg (aS A) t 3 ≤ 99999 := by have := wt t htt; unfold thg; omega
              have e : oBribes A (nI t) (nI ce) (nI n) = if leaW 99 (aS A) t ce n = 99 then fnd A 3 else (nI (leaW 99 (aS A) t ce n), A) := by
                unfold oBribes
                rw [if_pos (by simp (disch := omega) only [okI, okT, nI_toInt]; omega)]
                simp (disch := omega) only [uN_nI]
              have L : ∀ (j i : Nat) (N : gM), i + j = n → eqX M N → (∀ j, j < 36 → N.1 6 0 j = nI (waysN 1000 (aS A) t i j)) → P 73 [some (.ref (ad G 0 0)), some (.int (nI t)), some (.int (nI ce)), some (.int (nI n)), some (.ref (ad G 4 (8 * 0 + t))), some (.int (nI (leaW 1000 (aS A) t ce i))), some (.int (nI i))] [] N := by
                intro j
                induction j with
                | zero =>
                  intro i N hij hX hKN
                  have kx0 : N.1 4 (8 * 0 + t) 0 = nI (thg (aS A) t 0) := by rw [hX.1 4 (8 * 0 + t) (by unfold scr; omega)]; exact k0
                  have kx1 : N.1 4 (8 * 0 + t) 1 = nI (thg (aS A) t 1) := by rw [hX.1 4 (8 * 0 + t) (by unfold scr; omega)]; exact k1
                  have kx2 : N.1 4 (8 * 0 + t) 2 = nI (thg (aS A) t 2) := by rw [hX.1 4 (8 * 0 + t) (by unfold scr; omega)]; exact k2
                  have kx3 : N.1 4 (8 * 0 + t) 3 = nI (thg (aS A) t 3) := by rw [hX.1 4 (8 * 0 + t) (by unfold scr; omega)]; exact k3
                  have hsN := seaP_eqX hX w3 hc.1
                  obtain ⟨x0, x2, x3, x4, xr, xth⟩ := id hsN
                  have hle := rlC_lea (aS A) t ce i (by omega)
                  refine r_iload6 hR dX7_bribes_73 ?_
                  refine r_iload3 hR dX7_bribes_75 ?_
                  refine r_icmp_ge hR 134 dX7_bribes_76 (by decide) (fun c76 => ?_) (fun c76 => ?_)
                  · try simp (disch := omega) only [nI_ltI, nI_leI, nI_eq, bI_0, Decidable.not_not, lc_lt, lc_gt, lc_ge, lc_le, lc_eq, i64_toInt] at c76
                    try simp (disch := omega) only [cv_lt, cv_le, cv_eq, nI_toInt, cv_0] at c76
                    first
                    | omega
                    | refine r_iload5 hR dX7_bribes_134 ?_
                      refine r_sipush hR (nI 1000) (by decide) dX7_bribes_136 ?_
                      refine r_icmp_ne hR 151 dX7_bribes_139 (by decide) (fun c139 => ?_) (fun c139 => ?_)
                      · try simp (disch := omega) only [nI_ltI, nI_leI, nI_eq, bI_0, Decidable.not_not, lc_lt, lc_gt, lc_ge, lc_le, lc_eq, i64_toInt] at c139
                        try simp (disch := omega) only [cv_lt, cv_le, cv_eq, nI_toInt, cv_0] at c139
                        first
                        | omega
                        | refine r_iload5 hR dX7_bribes_151 ?_
                          refine r_iret hR dX7_bribes_153 ?_
                          obtain rfl : i = n := by omega
                          first
                          | (refine Qc_eqX (A := A) hX w3 hK8 hc ?_
                             rw [e, if_neg (by omega)]
                             rcases hle with q | q
                             · rw [q.1]
                             · omega)
                          | (refine Qc_fndX (A := A) hX w3 hK8 hc (by decide) ?_
                             rw [e, if_pos (by omega)])
                      · try simp (disch := omega) only [nI_ltI, nI_leI, nI_eq, bI_0, Decidable.not_not, lc_lt, lc_gt, lc_ge, lc_le, lc_eq, i64_toInt] at c139
                        try simp (disch := omega) only [cv_lt, cv_le, cv_eq, nI_toInt, cv_0] at c139
                        first
                        | omega
                        | refine r_aload0 hR dX7_bribes_142 ?_
                          refine r_ldc hR ct_X7_108 dX7_bribes_143 ?_
                          refine r_cv1v hR kv_X7_82 (by decide) (t_X7_findingC (n := 3) (by decide) (by decide)) (by first | decide | assumption | (simp only [gcnt_4, gcnt_1, gcnt_2, gcnt_3, gcnt_12, gcnt_13, gcnt_16]; omega)) rfl rfl (Nat.le_of_ble_eq_true rfl) dX7_bribes_145 ?_
                          refine r_goto hR 153 dX7_bribes_148 (by decide) ?_
                          refine r_iret hR dX7_bribes_153 ?_
                          obtain rfl : i = n := by omega
                          first
                          | (refine Qc_eqX (A := A) hX w3 hK8 hc ?_
                             rw [e, if_neg (by omega)]
                             rcases hle with q | q
                             · rw [q.1]
                             · omega)
                          | (refine Qc_fndX (A := A) hX w3 hK8 hc (by decide) ?_
                             rw [e, if_pos (by omega)])
                  · try simp (disch := omega) only [nI_ltI, nI_leI, nI_eq, bI_0, Decidable.not_not, lc_lt, lc_gt, lc_ge, lc_le, lc_eq, i64_toInt] at c76
                    try simp (disch := omega) only [cv_lt, cv_le, cv_eq, nI_toInt, cv_0] at c76
                    first
                    | omega
                    | refine r_aload0 hR dX7_bribes_79 ?_
                      refine r_get hR (by first | decide | assumption | (simp only [gcnt_4, gcnt_1, gcnt_2, gcnt_3, gcnt_12, gcnt_13, gcnt_16]; omega)) fl_X7_39 rfl rfl dX7_bribes_80 ?_
                      try simp only [x0, x2, x3, x4]
                      refine r_aload4 hR dX7_bribes_83 ?_
                      refine r_aload0 hR dX7_bribes_85 ?_
                      refine r_get hR (by first | decide | assumption | (simp only [gcnt_4, gcnt_1, gcnt_2, gcnt_3, gcnt_12, gcnt_13, gcnt_16]; omega)) fl_X7_10 rfl rfl dX7_bribes_86 ?_
                      try simp only [x0, x2, x3, x4]
                      refine r_aload0 hR dX7_bribes_89 ?_
                      refine r_get hR (by first | decide | assumption | (simp only [gcnt_4, gcnt_1, gcnt_2, gcnt_3, gcnt_12, gcnt_13, gcnt_16]; omega)) fl_X7_10 rfl rfl dX7_bribes_90 ?_
                      try simp only [x0, x2, x3, x4]
                      refine r_get hR (by first | decide | assumption | (simp only [gcnt_4, gcnt_1, gcnt_2, gcnt_3, gcnt_12, gcnt_13, gcnt_16]; omega)) fl_X7_128 rfl rfl dX7_bribes_93 ?_
                      try simp only [x0, x2, x3, x4]
                      refine r_iload6 hR dX7_bribes_96 ?_
                      refine r_iadd hR dX7_bribes_98 ?_
                      try rw [nI_add]
                      refine r_cv1v hR kv_X7_101 (by decide) (t_X1_windOn (by decide) hsN hwf (by omega)) (by first | decide | assumption | (simp only [gcnt_4, gcnt_1, gcnt_2, gcnt_3, gcnt_12, gcnt_13, gcnt_16]; omega)) rfl rfl (Nat.le_of_ble_eq_true rfl) dX7_bribes_99 ?_
                      refine r_aload0 hR dX7_bribes_102 ?_
                      refine r_get hR (by first | decide | assumption | (simp only [gcnt_4, gcnt_1, gcnt_2, gcnt_3, gcnt_12, gcnt_13, gcnt_16]; omega)) fl_X7_10 rfl rfl dX7_bribes_103 ?_
                      try simp only [x0, x2, x3, x4]
                      refine r_get hR (by first | decide | assumption | (simp only [gcnt_4, gcnt_1, gcnt_2, gcnt_3, gcnt_12, gcnt_13, gcnt_16]; omega)) fl_X7_97 rfl rfl dX7_bribes_106 ?_
                      try simp only [x0, x2, x3, x4]
                      refine r_cv3u hR kv_X7_195 (by decide) (t_X6_goDay (by omega) kx0 kx2 q0 q2 (by have := blow_le (S := aS A) (d := aS A 0 + i) wr; omega) w1 hKN (ways_le 1000 (aS A) t i)) (by first | decide | assumption | (simp only [gcnt_4, gcnt_1, gcnt_2, gcnt_3, gcnt_12, gcnt_13, gcnt_16]; omega)) rfl rfl (Nat.le_of_ble_eq_true rfl) dX7_bribes_109 ?_
                      refine r_iload5 hR dX7_bribes_112 ?_
                      refine r_aload0 hR dX7_bribes_114 ?_
                      refine r_get hR (by first | decide | assumption | (simp only [gcnt_4, gcnt_1, gcnt_2, gcnt_3, gcnt_12, gcnt_13, gcnt_16]; omega)) fl_X7_39 rfl rfl dX7_bribes_115 ?_
                      try simp only [x0, x2, x3, x4]
                      refine r_get hR (by first | decide | assumption | (simp only [gcnt_4, gcnt_1, gcnt_2, gcnt_3, gcnt_12, gcnt_13, gcnt_16]; omega)) fl_X7_192 rfl rfl dX7_bribes_118 ?_
                      try simp only [x0, x2, x3, x4]
                      refine r_iload2 hR dX7_bribes_121 ?_
                      refine r_iald hR (by first | decide | assumption | (simp only [gcnt_4, gcnt_1, gcnt_2, gcnt_3, gcnt_12, gcnt_13, gcnt_16]; omega)) rfl rfl (by omega) (by decide) dX7_bribes_122 ?_
                      try simp only [x0, x2, x3, x4]
                      rw [putR_at _ 6 0 _ (by omega)]
                      refine r_min hR kmin_X7_198 (by decide) (Nat.le_of_ble_eq_true rfl) dX7_bribes_123 ?_
                      refine r_nm _ (lea_mn 1000 (aS A) t ce i (by omega) (by have := ways_le 1000 (aS A) t (i + 1) ce; omega)) ?_
                      refine r_istore5 hR (fun _ h => by first | (cases h; rfl) | exact absurd h (by simp)) dX7_bribes_126 ?_
                      refine r_iinc6 hR (nI 1) (by decide) (fun _ h => by first | (cases h; rfl) | exact absurd h (by simp)) dX7_bribes_128 ?_
                      try rw [nI_add]
                      refine r_goto hR 73 dX7_bribes_131 (by decide) ?_
                      omega
                | succ j ih =>
                  intro i N hij hX hKN
                  have kx0 : N.1 4 (8 * 0 + t) 0 = nI (thg (aS A) t 0) := by rw [hX.1 4 (8 * 0 + t) (by unfold scr; omega)]; exact k0
                  have kx1 : N.1 4 (8 * 0 + t) 1 = nI (thg (aS A) t 1) := by rw [hX.1 4 (8 * 0 + t) (by unfold scr; omega)]; exact k1
                  have kx2 : N.1 4 (8 * 0 + t) 2 = nI (thg (aS A) t 2) := by rw [hX.1 4 (8 * 0 + t) (by unfold scr; omega)]; exact k2
                  have kx3 : N.1 4 (8 * 0 + t) 3 = nI (thg (aS A) t 3) := by rw [hX.1 4 (8 * 0 + t) (by unfold scr; omega)]; exact k3
                  have hsN := seaP_eqX hX w3 hc.1
                  obtain ⟨x0, x2, x3, x4, xr, xth⟩ := id hsN
                  have hle := rlC_lea (aS A) t ce i (by omega)
                  refine r_iload6 hR dX7_bribes_73 ?_
                  refine r_iload3 hR dX7_bribes_75 ?_
                  refine r_icmp_ge hR 134 dX7_bribes_76 (by decide) (fun c76 => ?_) (fun c76 => ?_)
                  · try simp (disch := omega) only [nI_ltI, nI_leI, nI_eq, bI_0, Decidable.not_not, lc_lt, lc_gt, lc_ge, lc_le, lc_eq, i64_toInt] at c76
                    try simp (disch := omega) only [cv_lt, cv_le, cv_eq, nI_toInt, cv_0] at c76
                    first
                    | omega
                    | refine r_iload5 hR dX7_bribes_134 ?_
                      refine r_sipush hR (nI 1000) (by decide) dX7_bribes_136 ?_
                      refine r_icmp_ne hR 151 dX7_bribes_139 (by decide) (fun c139 => ?_) (fun c139 => ?_)
                      · try simp (disch := omega) only [nI_ltI, nI_leI, nI_eq, bI_0, Decidable.not_not, lc_lt, lc_gt, lc_ge, lc_le, lc_eq, i64_toInt] at c139
                        try simp (disch := omega) only [cv_lt, cv_le, cv_eq, nI_toInt, cv_0] at c139
                        first
                        | omega
                        | refine r_iload5 hR dX7_bribes_151 ?_
                          refine r_iret hR dX7_bribes_153 ?_
                          obtain rfl : i = n := by omega
                          first
                          | (refine Qc_eqX (A := A) hX w3 hK8 hc ?_
                             rw [e, if_neg (by omega)]
                             rcases hle with q | q
                             · rw [q.1]
                             · omega)
                          | (refine Qc_fndX (A := A) hX w3 hK8 hc (by decide) ?_
                             rw [e, if_pos (by omega)])
                      · try simp (disch := omega) only [nI_ltI, nI_leI, nI_eq, bI_0, Decidable.not_not, lc_lt, lc_gt, lc_ge, lc_le, lc_eq, i64_toInt] at c139
                        try simp (disch := omega) only [cv_lt, cv_le, cv_eq, nI_toInt, cv_0] at c139
                        first
                        | omega
                        | refine r_aload0 hR dX7_bribes_142 ?_
                          refine r_ldc hR ct_X7_108 dX7_bribes_143 ?_
                          refine r_cv1v hR kv_X7_82 (by decide) (t_X7_findingC (n := 3) (by decide) (by decide)) (by first | decide | assumption | (simp only [gcnt_4, gcnt_1, gcnt_2, gcnt_3, gcnt_12, gcnt_13, gcnt_16]; omega)) rfl rfl (Nat.le_of_ble_eq_true rfl) dX7_bribes_145 ?_
                          refine r_goto hR 153 dX7_bribes_148 (by decide) ?_
                          refine r_iret hR dX7_bribes_153 ?_
                          obtain rfl : i = n := by omega
                          first
                          | (refine Qc_eqX (A := A) hX w3 hK8 hc ?_
                             rw [e, if_neg (by omega)]
                             rcases hle with q | q
                             · rw [q.1]
                             · omega)
                          | (refine Qc_fndX (A := A) hX w3 hK8 hc (by decide) ?_
                             rw [e, if_pos (by omega)])
                  · try simp (disch := omega) only [nI_ltI, nI_leI, nI_eq, bI_0, Decidable.not_not, lc_lt, lc_gt, lc_ge, lc_le, lc_eq, i64_toInt] at c76
                    try simp (disch := omega) only [cv_lt, cv_le, cv_eq, nI_toInt, cv_0] at c76
                    first
                    | omega
                    | refine r_aload0 hR dX7_bribes_79 ?_
                      refine r_get hR (by first | decide | assumption | (simp only [gcnt_4, gcnt_1, gcnt_2, gcnt_3, gcnt_12, gcnt_13, gcnt_16]; omega)) fl_X7_39 rfl rfl dX7_bribes_80 ?_
                      try simp only [x0, x2, x3, x4]
                      refine r_aload4 hR dX7_bribes_83 ?_
                      refine r_aload0 hR dX7_bribes_85 ?_
                      refine r_get hR (by first | decide | assumption | (simp only [gcnt_4, gcnt_1, gcnt_2, gcnt_3, gcnt_12, gcnt_13, gcnt_16]; omega)) fl_X7_10 rfl rfl dX7_bribes_86 ?_
                      try simp only [x0, x2, x3, x4]
                      refine r_aload0 hR dX7_bribes_89 ?_
                      refine r_get hR (by first | decide | assumption | (simp only [gcnt_4, gcnt_1, gcnt_2, gcnt_3, gcnt_12, gcnt_13, gcnt_16]; omega)) fl_X7_10 rfl rfl dX7_bribes_90 ?_
                      try simp only [x0, x2, x3, x4]
                      refine r_get hR (by first | decide | assumption | (simp only [gcnt_4, gcnt_1, gcnt_2, gcnt_3, gcnt_12, gcnt_13, gcnt_16]; omega)) fl_X7_128 rfl rfl dX7_bribes_93 ?_
                      try simp only [x0, x2, x3, x4]
                      refine r_iload6 hR dX7_bribes_96 ?_
                      refine r_iadd hR dX7_bribes_98 ?_
                      try rw [nI_add]
                      refine r_cv1v hR kv_X7_101 (by decide) (t_X1_windOn (by decide) hsN hwf (by omega)) (by first | decide | assumption | (simp only [gcnt_4, gcnt_1, gcnt_2, gcnt_3, gcnt_12, gcnt_13, gcnt_16]; omega)) rfl rfl (Nat.le_of_ble_eq_true rfl) dX7_bribes_99 ?_
                      refine r_aload0 hR dX7_bribes_102 ?_
                      refine r_get hR (by first | decide | assumption | (simp only [gcnt_4, gcnt_1, gcnt_2, gcnt_3, gcnt_12, gcnt_13, gcnt_16]; omega)) fl_X7_10 rfl rfl dX7_bribes_103 ?_
                      try simp only [x0, x2, x3, x4]
                      refine r_get hR (by first | decide | assumption | (simp only [gcnt_4, gcnt_1, gcnt_2, gcnt_3, gcnt_12, gcnt_13, gcnt_16]; omega)) fl_X7_97 rfl rfl dX7_bribes_106 ?_
                      try simp only [x0, x2, x3, x4]
                      refine r_cv3u hR kv_X7_195 (by decide) (t_X6_goDay (by omega) kx0 kx2 q0 q2 (by have := blow_le (S := aS A) (d := aS A 0 + i) wr; omega) w1 hKN (ways_le 1000 (aS A) t i)) (by first | decide | assumption | (simp only [gcnt_4, gcnt_1, gcnt_2, gcnt_3, gcnt_12, gcnt_13, gcnt_16]; omega)) rfl rfl (Nat.le_of_ble_eq_true rfl) dX7_bribes_109 ?_
                      refine r_iload5 hR dX7_bribes_112 ?_
                      refine r_aload0 hR dX7_bribes_114 ?_
                      refine r_get hR (by first | decide | assumption | (simp only [gcnt_4, gcnt_1, gcnt_2, gcnt_3, gcnt_12, gcnt_13, gcnt_16]; omega)) fl_X7_39 rfl rfl dX7_bribes_115 ?_
                      try simp only [x0, x2, x3, x4]
                      refine r_get hR (by first | decide | assumption | (simp only [gcnt_4, gcnt_1, gcnt_2, gcnt_3, gcnt_12, gcnt_13, gcnt_16]; omega)) fl_X7_192 rfl rfl dX7_bribes_118 ?_
                      try simp only [x0, x2, x3, x4]
                      refine r_iload2 hR dX7_bribes_121 ?_
                      refine r_iald hR (by first | decide | assumption | (simp only [gcnt_4, gcnt_1, gcnt_2, gcnt_3, gcnt_12, gcnt_13, gcnt_16]; omega)) rfl rfl (by omega) (by decide) dX7_bribes_122 ?_
                      try simp only [x0, x2, x3, x4]
                      rw [putR_at _ 6 0 _ (by omega)]
                      refine r_min hR kmin_X7_198 (by decide) (Nat.le_of_ble_eq_true rfl) dX7_bribes_123 ?_
                      refine r_nm _ (lea_mn 1000 (aS A) t ce i (by omega) (by have := ways_le 1000 (aS A) t (i + 1) ce; omega)) ?_
                      refine r_istore5 hR (fun _ h => by first | (cases h; rfl) | exact absurd h (by simp)) dX7_bribes_126 ?_
                      refine r_iinc6 hR (nI 1) (by decide) (fun _ h => by first | (cases h; rfl) | exact absurd h (by simp)) dX7_bribes_128 ?_
                      try rw [nI_add]
                      refine r_goto hR 73 dX7_bribes_131 (by decide) ?_
                      exact ih (i + 1) _ (by omega) (hX.tr ((eqX_putR N _ 36).tr (eqX_putR _ _ 36))) (fun j hj => putR_at _ 6 0 _ hj)
              refine r_aload0 hR dX7_bribes_36 ?_
              refine r_get hR (by first | decide | assumption | (simp only [gcnt_4, gcnt_1, gcnt_2, gcnt_3, gcnt_12, gcnt_13, gcnt_16]; omega)) fl_X7_10 rfl rfl dX7_bribes_37 ?_
              try simp only [s0, s2, s3, s4]
              refine r_get hR (by first | decide | assumption | (simp only [gcnt_4, gcnt_1, gcnt_2, gcnt_3, gcnt_12, gcnt_13, gcnt_16]; omega)) fl_X7_124 rfl rfl dX7_bribes_40 ?_
              try simp only [s0, s2, s3, s4]
              refine r_iload1 hR dX7_bribes_43 ?_
              refine r_aald hR (t0 := 3) (by first | decide | assumption | (simp only [gcnt_4, gcnt_1, gcnt_2, gcnt_3, gcnt_12, gcnt_13, gcnt_16]; omega)) rfl rfl rfl (by omega) (by decide) rfl dX7_bribes_44 ?_
              refine r_astore4 hR (fun _ h => by first | (cases h; rfl) | exact absurd h (by simp)) dX7_bribes_45 ?_
              refine r_aload0 hR dX7_bribes_47 ?_
              refine r_get hR (by first | decide | assumption | (simp only [gcnt_4, gcnt_1, gcnt_2, gcnt_3, gcnt_12, gcnt_13, gcnt_16]; omega)) fl_X7_39 rfl rfl dX7_bribes_48 ?_
              try simp only [s0, s2, s3, s4]
              refine r_aload4 hR dX7_bribes_51 ?_
              refine r_get hR (by first | decide | assumption | (simp only [gcnt_4, gcnt_1, gcnt_2, gcnt_3, gcnt_12, gcnt_13, gcnt_16]; omega)) fl_X7_134 rfl rfl dX7_bribes_53 ?_
              try simp only [s0, s2, s3, s4]
              rw [k1]
              refine r_cv1u hR kv_X7_189 (by decide) (t_X6_begin q1) (by first | decide | assumption | (simp only [gcnt_4, gcnt_1, gcnt_2, gcnt_3, gcnt_12, gcnt_13, gcnt_16]; omega)) rfl rfl (Nat.le_of_ble_eq_true rfl) dX7_bribes_56 ?_
              refine r_aload0 hR dX7_bribes_59 ?_
              refine r_get hR (by first | decide | assumption | (simp only [gcnt_4, gcnt_1, gcnt_2, gcnt_3, gcnt_12, gcnt_13, gcnt_16]; omega)) fl_X7_39 rfl rfl dX7_bribes_60 ?_
              try simp only [s0, s2, s3, s4]
              refine r_get hR (by first | decide | assumption | (simp only [gcnt_4, gcnt_1, gcnt_2, gcnt_3, gcnt_12, gcnt_13, gcnt_16]; omega)) fl_X7_192 rfl rfl dX7_bribes_63 ?_
              try simp only [s0, s2, s3, s4]
              refine r_iload2 hR dX7_bribes_66 ?_
              refine r_iald hR (by first | decide | assumption | (simp only [gcnt_4, gcnt_1, gcnt_2, gcnt_3, gcnt_12, gcnt_13, gcnt_16]; omega)) rfl rfl (by omega) (by decide) dX7_bribes_67 ?_
              try simp only [s0, s2, s3, s4]
              rw [putR_at _ 6 0 _ (by omega)]
              refine r_istore5 hR (fun _ h => by first | (cases h; rfl) | exact absurd h (by simp)) dX7_bribes_68 ?_
              refine r_iconst hR (nI 0) (by decide) dX7_bribes_70 ?_
              refine r_istore6 hR (fun _ h => by first | (cases h; rfl) | exact absurd h (by simp)) dX7_bribes_71 ?_
              exact L n 0 _ (by omega) (eqX_putR M _ 36) (fun j hj => putR_at M 6 0 _ hj)
          · try simp (disch := omega) only [nI_ltI, nI_leI, nI_eq, bI_0, Decidable.not_not, lc_lt, lc_gt, lc_ge, lc_le, lc_eq, i64_toInt] at c26
            try simp (disch := omega) only [cv_lt, cv_le, cv_eq, nI_toInt, cv_0] at c26
            first
            | omega
            | refine r_aload0 hR dX7_bribes_29 ?_
              refine r_ldc hR ct_X7_81 dX7_bribes_30 ?_
              refine r_cv1v hR kv_X7_82 (by decide) (t_X7_findingC (n := 0) (by decide) (by decide)) (by first | decide | assumption | (simp only [gcnt_4, gcnt_1, gcnt_2, gcnt_3, gcnt_12, gcnt_13, gcnt_16]; omega)) rfl rfl (Nat.le_of_ble_eq_true rfl) dX7_bribes_32 ?_
              refine r_iret hR dX7_bribes_35 ?_
              refine Qc_fnd hc (by decide) ?_
              unfold oBribes
              dsimp only [okI, okT]
              (repeat' split) <;> first | rfl | omega

set_option maxHeartbeats 4000000 in
set_option maxRecDepth 100000 in
theorem t_X7_soonest {G : gG} {M : gM} {A : gA} {x y z : Int32} (hc : clsP M A) (hw : wfA A) : Ct G mX7_soonest 4 [.ref (ad G 0 0), .int x, .int y, .int z] M (Qc M (oSoonest A x y z)) := by
  obtain ⟨hwf, hday, hwk, hk2, hl, hT, hsh⟩ := id hw
  obtain ⟨w0, w1, w2, w3, wr, wt⟩ := id hwf
  obtain ⟨s0, s2, s3, s4, sr, sth⟩ := id hc.1
  have hK8 : ak A = 1 → aK A 3 ≤ 8 := fun z => (hwk z).1.2.2.2.1
  refine Ct.of (by decide +kernel) (k := 2) (ls0 := [some (.ref (ad G 0 0)), some (.int x), some (.int y), some (.int z), none, none]) rfl rfl (fun _ _ => trivial) ?_
  intro P hR
  refine r_aload0 hR dX7_soonest_0 ?_
  refine r_get hR (by first | decide | assumption | (simp only [gcnt_4, gcnt_1, gcnt_2, gcnt_3, gcnt_12, gcnt_13, gcnt_16]; omega)) fl_X7_10 rfl rfl dX7_soonest_1 ?_
  try simp only [s0, s2, s3, s4]
  refine r_iload1 hR dX7_soonest_4 ?_
  refine r_cv1v hR kv_X7_121 (by decide) (t_X1_has (by decide) hc.1 w3) (by first | decide | assumption | (simp only [gcnt_4, gcnt_1, gcnt_2, gcnt_3, gcnt_12, gcnt_13, gcnt_16]; omega)) rfl rfl (Nat.le_of_ble_eq_true rfl) dX7_soonest_5 ?_
  refine r_if_eq hR 29 dX7_soonest_8 (by decide) (fun c8 => ?_) (fun c8 => ?_)
  · try simp (disch := omega) only [nI_ltI, nI_leI, nI_eq, bI_0, Decidable.not_not, lc_lt, lc_gt, lc_ge, lc_le, lc_eq, i64_toInt] at c8
    try simp (disch := omega) only [cv_lt, cv_le, cv_eq, nI_toInt, cv_0] at c8
    first
    | omega
    | refine r_aload0 hR dX7_soonest_29 ?_
      refine r_ldc hR ct_X7_81 dX7_soonest_30 ?_
      refine r_cv1v hR kv_X7_82 (by decide) (t_X7_findingC (n := 0) (by decide) (by decide)) (by first | decide | assumption | (simp only [gcnt_4, gcnt_1, gcnt_2, gcnt_3, gcnt_12, gcnt_13, gcnt_16]; omega)) rfl rfl (Nat.le_of_ble_eq_true rfl) dX7_soonest_32 ?_
      refine r_iret hR dX7_soonest_35 ?_
      refine Qc_fnd hc (by decide) ?_
      unfold oSoonest
      dsimp only [okI, okT]
      (repeat' split) <;> first | rfl | omega
  · try simp (disch := omega) only [nI_ltI, nI_leI, nI_eq, bI_0, Decidable.not_not, lc_lt, lc_gt, lc_ge, lc_le, lc_eq, i64_toInt] at c8
    try simp (disch := omega) only [cv_lt, cv_le, cv_eq, nI_toInt, cv_0] at c8
    first
    | omega
    | refine r_iload2 hR dX7_soonest_11 ?_
      refine r_bipush hR (nI 35) (by decide) dX7_soonest_12 ?_
      refine r_cs2v hR ks_X7_77 (by decide) (t_X7_within) (Nat.le_of_ble_eq_true rfl) dX7_soonest_14 ?_
      refine r_if_eq hR 29 dX7_soonest_17 (by decide) (fun c17 => ?_) (fun c17 => ?_)
      · try simp (disch := omega) only [nI_ltI, nI_leI, nI_eq, bI_0, Decidable.not_not, lc_lt, lc_gt, lc_ge, lc_le, lc_eq, i64_toInt] at c17
        try simp (disch := omega) only [cv_lt, cv_le, cv_eq, nI_toInt, cv_0] at c17
        first
        | omega
        | refine r_aload0 hR dX7_soonest_29 ?_
          refine r_ldc hR ct_X7_81 dX7_soonest_30 ?_
          refine r_cv1v hR kv_X7_82 (by decide) (t_X7_findingC (n := 0) (by decide) (by decide)) (by first | decide | assumption | (simp only [gcnt_4, gcnt_1, gcnt_2, gcnt_3, gcnt_12, gcnt_13, gcnt_16]; omega)) rfl rfl (Nat.le_of_ble_eq_true rfl) dX7_soonest_32 ?_
          refine r_iret hR dX7_soonest_35 ?_
          refine Qc_fnd hc (by decide) ?_
          unfold oSoonest
          dsimp only [okI, okT]
          (repeat' split) <;> first | rfl | omega
      · try simp (disch := omega) only [nI_ltI, nI_leI, nI_eq, bI_0, Decidable.not_not, lc_lt, lc_gt, lc_ge, lc_le, lc_eq, i64_toInt] at c17
        try simp (disch := omega) only [cv_lt, cv_le, cv_eq, nI_toInt, cv_0] at c17
        first
        | omega
        | refine r_iload3 hR dX7_soonest_20 ?_
          refine r_bipush hR (nI 30) (by decide) dX7_soonest_21 ?_
          refine r_cs2v hR ks_X7_77 (by decide) (t_X7_within) (Nat.le_of_ble_eq_true rfl) dX7_soonest_23 ?_
          refine r_if_ne hR 36 dX7_soonest_26 (by decide) (fun c26 => ?_) (fun c26 => ?_)
          · try simp (disch := omega) only [nI_ltI, nI_leI, nI_eq, bI_0, Decidable.not_not, lc_lt, lc_gt, lc_ge, lc_le, lc_eq, i64_toInt] at c26
            try simp (disch := omega) only [cv_lt, cv_le, cv_eq, nI_toInt, cv_0] at c26
            first
            | omega
            | obtain ⟨ce, hce, rfl⟩ := of_in (x := y) (N := 35) (by omega)
              obtain ⟨k, hk, rfl⟩ := of_in (x := z) (N := 30) (by omega)
              obtain ⟨t, ht0, rfl⟩ := of_in (x := x) (N := aS A 3 - 1) (by omega)
              have htt : t < aS A 3 := by rw [nI_toInt (by omega)] at c8; omega
              have k0 : M.1 4 (8 * 0 + t) 0 = nI (thg (aS A) t 0) := sth t htt 0 (by decide)
              have k1 : M.1 4 (8 * 0 + t) 1 = nI (thg (aS A) t 1) := sth t htt 1 (by decide)
              have k2 : M.1 4 (8 * 0 + t) 2 = nI (thg (aS A) t 2) := sth t htt 2 (by decide)
              have k3 : M.1 4 (8 * 0 + t) 3 = nI (thg (aS A) t 3) := sth t htt 3 (by decide)
              have q0 : thg (aS A) t 0 < 6 := by have := wt t htt; unfold thg; rw [Nat.add_zero]; omega
              have q1 : thg (aS A) t 1 < 36 := by have := wt t htt; unfold thg; omega
              have q2 : thg (aS A) t 2 < 8 := by have := wt t htt; unfold thg; omega
              have q3 : thg (aS A) t 3 ≤ 99999 := by have := wt t htt; unfold thg; omega
              have e : oSoonest A (nI t) (nI ce) (nI k) = if firstN (fun d => decide (waysN 99 (aS A) t d ce ≤ k)) 31 0 = 31 then fnd A 3 else (nI (firstN (fun d => decide (waysN 99 (aS A) t d ce ≤ k)) 31 0), A) := by
                unfold oSoonest
                rw [if_pos (by simp (disch := omega) only [okI, okT, nI_toInt]; omega)]
                simp (disch := omega) only [uN_nI]
              have L : ∀ (j i : Nat) (N : gM), i + j = 31 → eqX M N → (∀ j, j < 36 → N.1 6 0 j = nI (waysN 1000 (aS A) t i j)) → firstN (fun d => decide (waysN 99 (aS A) t d ce ≤ k)) j i = firstN (fun d => decide (waysN 99 (aS A) t d ce ≤ k)) 31 0 → P 62 [some (.ref (ad G 0 0)), some (.int (nI t)), some (.int (nI ce)), some (.int (nI k)), some (.ref (ad G 4 (8 * 0 + t))), some (.int (nI i))] [] N := by
                intro j
                induction j with
                | zero =>
                  intro i N hij hX hKN hf
                  have kx0 : N.1 4 (8 * 0 + t) 0 = nI (thg (aS A) t 0) := by rw [hX.1 4 (8 * 0 + t) (by unfold scr; omega)]; exact k0
                  have kx1 : N.1 4 (8 * 0 + t) 1 = nI (thg (aS A) t 1) := by rw [hX.1 4 (8 * 0 + t) (by unfold scr; omega)]; exact k1
                  have kx2 : N.1 4 (8 * 0 + t) 2 = nI (thg (aS A) t 2) := by rw [hX.1 4 (8 * 0 + t) (by unfold scr; omega)]; exact k2
                  have kx3 : N.1 4 (8 * 0 + t) 3 = nI (thg (aS A) t 3) := by rw [hX.1 4 (8 * 0 + t) (by unfold scr; omega)]; exact k3
                  have hsN := seaP_eqX hX w3 hc.1
                  obtain ⟨x0, x2, x3, x4, xr, xth⟩ := id hsN
                  refine r_iload5 hR dX7_soonest_62 ?_
                  refine r_bipush hR (nI 30) (by decide) dX7_soonest_64 ?_
                  refine r_icmp_gt hR 124 dX7_soonest_66 (by decide) (fun c66 => ?_) (fun c66 => ?_)
                  · try simp (disch := omega) only [nI_ltI, nI_leI, nI_eq, bI_0, Decidable.not_not, lc_lt, lc_gt, lc_ge, lc_le, lc_eq, i64_toInt] at c66
                    try simp (disch := omega) only [cv_lt, cv_le, cv_eq, nI_toInt, cv_0] at c66
                    first
                    | omega
                    | refine r_aload0 hR dX7_soonest_124 ?_
                      refine r_ldc hR ct_X7_108 dX7_soonest_125 ?_
                      refine r_cv1v hR kv_X7_82 (by decide) (t_X7_findingC (n := 3) (by decide) (by decide)) (by first | decide | assumption | (simp only [gcnt_4, gcnt_1, gcnt_2, gcnt_3, gcnt_12, gcnt_13, gcnt_16]; omega)) rfl rfl (Nat.le_of_ble_eq_true rfl) dX7_soonest_127 ?_
                      refine r_iret hR dX7_soonest_130 ?_
                      obtain rfl : i = 31 := by omega
                      refine Qc_fndX (A := A) hX w3 hK8 hc (by decide) ?_
                      rw [e, ← hf]
                      exact if_pos rfl
                  · try simp (disch := omega) only [nI_ltI, nI_leI, nI_eq, bI_0, Decidable.not_not, lc_lt, lc_gt, lc_ge, lc_le, lc_eq, i64_toInt] at c66
                    try simp (disch := omega) only [cv_lt, cv_le, cv_eq, nI_toInt, cv_0] at c66
                    first
                    | omega
                    | refine r_aload0 hR dX7_soonest_69 ?_
                      refine r_get hR (by first | decide | assumption | (simp only [gcnt_4, gcnt_1, gcnt_2, gcnt_3, gcnt_12, gcnt_13, gcnt_16]; omega)) fl_X7_39 rfl rfl dX7_soonest_70 ?_
                      try simp only [x0, x2, x3, x4]
                      refine r_get hR (by first | decide | assumption | (simp only [gcnt_4, gcnt_1, gcnt_2, gcnt_3, gcnt_12, gcnt_13, gcnt_16]; omega)) fl_X7_192 rfl rfl dX7_soonest_73 ?_
                      try simp only [x0, x2, x3, x4]
                      refine r_iload2 hR dX7_soonest_76 ?_
                      refine r_iald hR (by first | decide | assumption | (simp only [gcnt_4, gcnt_1, gcnt_2, gcnt_3, gcnt_12, gcnt_13, gcnt_16]; omega)) rfl rfl (by omega) (by decide) dX7_soonest_77 ?_
                      try simp only [x0, x2, x3, x4]
                      rw [hKN ce (by omega)]
                      have hle := rlC_ways (aS A) t i (by omega) ce
                      refine r_iload3 hR dX7_soonest_78 ?_
                      refine r_icmp_gt hR 85 dX7_soonest_79 (by decide) (fun c79 => ?_) (fun c79 => ?_)
                      · try simp (disch := omega) only [nI_ltI, nI_leI, nI_eq, bI_0, Decidable.not_not, lc_lt, lc_gt, lc_ge, lc_le, lc_eq, i64_toInt] at c79
                        try simp (disch := omega) only [cv_lt, cv_le, cv_eq, nI_toInt, cv_0] at c79
                        first
                        | omega
                        | refine r_aload0 hR dX7_soonest_85 ?_
                          refine r_get hR (by first | decide | assumption | (simp only [gcnt_4, gcnt_1, gcnt_2, gcnt_3, gcnt_12, gcnt_13, gcnt_16]; omega)) fl_X7_39 rfl rfl dX7_soonest_86 ?_
                          try simp only [x0, x2, x3, x4]
                          refine r_aload4 hR dX7_soonest_89 ?_
                          refine r_aload0 hR dX7_soonest_91 ?_
                          refine r_get hR (by first | decide | assumption | (simp only [gcnt_4, gcnt_1, gcnt_2, gcnt_3, gcnt_12, gcnt_13, gcnt_16]; omega)) fl_X7_10 rfl rfl dX7_soonest_92 ?_
                          try simp only [x0, x2, x3, x4]
                          refine r_aload0 hR dX7_soonest_95 ?_
                          refine r_get hR (by first | decide | assumption | (simp only [gcnt_4, gcnt_1, gcnt_2, gcnt_3, gcnt_12, gcnt_13, gcnt_16]; omega)) fl_X7_10 rfl rfl dX7_soonest_96 ?_
                          try simp only [x0, x2, x3, x4]
                          refine r_get hR (by first | decide | assumption | (simp only [gcnt_4, gcnt_1, gcnt_2, gcnt_3, gcnt_12, gcnt_13, gcnt_16]; omega)) fl_X7_128 rfl rfl dX7_soonest_99 ?_
                          try simp only [x0, x2, x3, x4]
                          refine r_iload5 hR dX7_soonest_102 ?_
                          refine r_iadd hR dX7_soonest_104 ?_
                          try rw [nI_add]
                          refine r_cv1v hR kv_X7_101 (by decide) (t_X1_windOn (by decide) hsN hwf (by omega)) (by first | decide | assumption | (simp only [gcnt_4, gcnt_1, gcnt_2, gcnt_3, gcnt_12, gcnt_13, gcnt_16]; omega)) rfl rfl (Nat.le_of_ble_eq_true rfl) dX7_soonest_105 ?_
                          refine r_aload0 hR dX7_soonest_108 ?_
                          refine r_get hR (by first | decide | assumption | (simp only [gcnt_4, gcnt_1, gcnt_2, gcnt_3, gcnt_12, gcnt_13, gcnt_16]; omega)) fl_X7_10 rfl rfl dX7_soonest_109 ?_
                          try simp only [x0, x2, x3, x4]
                          refine r_get hR (by first | decide | assumption | (simp only [gcnt_4, gcnt_1, gcnt_2, gcnt_3, gcnt_12, gcnt_13, gcnt_16]; omega)) fl_X7_97 rfl rfl dX7_soonest_112 ?_
                          try simp only [x0, x2, x3, x4]
                          refine r_cv3u hR kv_X7_195 (by decide) (t_X6_goDay (by omega) kx0 kx2 q0 q2 (by have := blow_le (S := aS A) (d := aS A 0 + i) wr; omega) w1 hKN (ways_le 1000 (aS A) t i)) (by first | decide | assumption | (simp only [gcnt_4, gcnt_1, gcnt_2, gcnt_3, gcnt_12, gcnt_13, gcnt_16]; omega)) rfl rfl (Nat.le_of_ble_eq_true rfl) dX7_soonest_115 ?_
                          refine r_iinc5 hR (nI 1) (by decide) (fun _ h => by first | (cases h; rfl) | exact absurd h (by simp)) dX7_soonest_118 ?_
                          try rw [nI_add]
                          refine r_goto hR 62 dX7_soonest_121 (by decide) ?_
                          omega
                      · try simp (disch := omega) only [nI_ltI, nI_leI, nI_eq, bI_0, Decidable.not_not, lc_lt, lc_gt, lc_ge, lc_le, lc_eq, i64_toInt] at c79
                        try simp (disch := omega) only [cv_lt, cv_le, cv_eq, nI_toInt, cv_0] at c79
                        first
                        | omega
                        | refine r_iload5 hR dX7_soonest_82 ?_
                          refine r_iret hR dX7_soonest_84 ?_
                          omega
                | succ j ih =>
                  intro i N hij hX hKN hf
                  have kx0 : N.1 4 (8 * 0 + t) 0 = nI (thg (aS A) t 0) := by rw [hX.1 4 (8 * 0 + t) (by unfold scr; omega)]; exact k0
                  have kx1 : N.1 4 (8 * 0 + t) 1 = nI (thg (aS A) t 1) := by rw [hX.1 4 (8 * 0 + t) (by unfold scr; omega)]; exact k1
                  have kx2 : N.1 4 (8 * 0 + t) 2 = nI (thg (aS A) t 2) := by rw [hX.1 4 (8 * 0 + t) (by unfold scr; omega)]; exact k2
                  have kx3 : N.1 4 (8 * 0 + t) 3 = nI (thg (aS A) t 3) := by rw [hX.1 4 (8 * 0 + t) (by unfold scr; omega)]; exact k3
                  have hsN := seaP_eqX hX w3 hc.1
                  obtain ⟨x0, x2, x3, x4, xr, xth⟩ := id hsN
                  refine r_iload5 hR dX7_soonest_62 ?_
                  refine r_bipush hR (nI 30) (by decide) dX7_soonest_64 ?_
                  refine r_icmp_gt hR 124 dX7_soonest_66 (by decide) (fun c66 => ?_) (fun c66 => ?_)
                  · try simp (disch := omega) only [nI_ltI, nI_leI, nI_eq, bI_0, Decidable.not_not, lc_lt, lc_gt, lc_ge, lc_le, lc_eq, i64_toInt] at c66
                    try simp (disch := omega) only [cv_lt, cv_le, cv_eq, nI_toInt, cv_0] at c66
                    first
                    | omega
                    | refine r_aload0 hR dX7_soonest_124 ?_
                      refine r_ldc hR ct_X7_108 dX7_soonest_125 ?_
                      refine r_cv1v hR kv_X7_82 (by decide) (t_X7_findingC (n := 3) (by decide) (by decide)) (by first | decide | assumption | (simp only [gcnt_4, gcnt_1, gcnt_2, gcnt_3, gcnt_12, gcnt_13, gcnt_16]; omega)) rfl rfl (Nat.le_of_ble_eq_true rfl) dX7_soonest_127 ?_
                      refine r_iret hR dX7_soonest_130 ?_
                      omega
                  · try simp (disch := omega) only [nI_ltI, nI_leI, nI_eq, bI_0, Decidable.not_not, lc_lt, lc_gt, lc_ge, lc_le, lc_eq, i64_toInt] at c66
                    try simp (disch := omega) only [cv_lt, cv_le, cv_eq, nI_toInt, cv_0] at c66
                    first
                    | omega
                    | refine r_aload0 hR dX7_soonest_69 ?_
                      refine r_get hR (by first | decide | assumption | (simp only [gcnt_4, gcnt_1, gcnt_2, gcnt_3, gcnt_12, gcnt_13, gcnt_16]; omega)) fl_X7_39 rfl rfl dX7_soonest_70 ?_
                      try simp only [x0, x2, x3, x4]
                      refine r_get hR (by first | decide | assumption | (simp only [gcnt_4, gcnt_1, gcnt_2, gcnt_3, gcnt_12, gcnt_13, gcnt_16]; omega)) fl_X7_192 rfl rfl dX7_soonest_73 ?_
                      try simp only [x0, x2, x3, x4]
                      refine r_iload2 hR dX7_soonest_76 ?_
                      refine r_iald hR (by first | decide | assumption | (simp only [gcnt_4, gcnt_1, gcnt_2, gcnt_3, gcnt_12, gcnt_13, gcnt_16]; omega)) rfl rfl (by omega) (by decide) dX7_soonest_77 ?_
                      try simp only [x0, x2, x3, x4]
                      rw [hKN ce (by omega)]
                      have hle := rlC_ways (aS A) t i (by omega) ce
                      refine r_iload3 hR dX7_soonest_78 ?_
                      refine r_icmp_gt hR 85 dX7_soonest_79 (by decide) (fun c79 => ?_) (fun c79 => ?_)
                      · try simp (disch := omega) only [nI_ltI, nI_leI, nI_eq, bI_0, Decidable.not_not, lc_lt, lc_gt, lc_ge, lc_le, lc_eq, i64_toInt] at c79
                        try simp (disch := omega) only [cv_lt, cv_le, cv_eq, nI_toInt, cv_0] at c79
                        first
                        | omega
                        | refine r_aload0 hR dX7_soonest_85 ?_
                          refine r_get hR (by first | decide | assumption | (simp only [gcnt_4, gcnt_1, gcnt_2, gcnt_3, gcnt_12, gcnt_13, gcnt_16]; omega)) fl_X7_39 rfl rfl dX7_soonest_86 ?_
                          try simp only [x0, x2, x3, x4]
                          refine r_aload4 hR dX7_soonest_89 ?_
                          refine r_aload0 hR dX7_soonest_91 ?_
                          refine r_get hR (by first | decide | assumption | (simp only [gcnt_4, gcnt_1, gcnt_2, gcnt_3, gcnt_12, gcnt_13, gcnt_16]; omega)) fl_X7_10 rfl rfl dX7_soonest_92 ?_
                          try simp only [x0, x2, x3, x4]
                          refine r_aload0 hR dX7_soonest_95 ?_
                          refine r_get hR (by first | decide | assumption | (simp only [gcnt_4, gcnt_1, gcnt_2, gcnt_3, gcnt_12, gcnt_13, gcnt_16]; omega)) fl_X7_10 rfl rfl dX7_soonest_96 ?_
                          try simp only [x0, x2, x3, x4]
                          refine r_get hR (by first | decide | assumption | (simp only [gcnt_4, gcnt_1, gcnt_2, gcnt_3, gcnt_12, gcnt_13, gcnt_16]; omega)) fl_X7_128 rfl rfl dX7_soonest_99 ?_
                          try simp only [x0, x2, x3, x4]
                          refine r_iload5 hR dX7_soonest_102 ?_
                          refine r_iadd hR dX7_soonest_104 ?_
                          try rw [nI_add]
                          refine r_cv1v hR kv_X7_101 (by decide) (t_X1_windOn (by decide) hsN hwf (by omega)) (by first | decide | assumption | (simp only [gcnt_4, gcnt_1, gcnt_2, gcnt_3, gcnt_12, gcnt_13, gcnt_16]; omega)) rfl rfl (Nat.le_of_ble_eq_true rfl) dX7_soonest_105 ?_
                          refine r_aload0 hR dX7_soonest_108 ?_
                          refine r_get hR (by first | decide | assumption | (simp only [gcnt_4, gcnt_1, gcnt_2, gcnt_3, gcnt_12, gcnt_13, gcnt_16]; omega)) fl_X7_10 rfl rfl dX7_soonest_109 ?_
                          try simp only [x0, x2, x3, x4]
                          refine r_get hR (by first | decide | assumption | (simp only [gcnt_4, gcnt_1, gcnt_2, gcnt_3, gcnt_12, gcnt_13, gcnt_16]; omega)) fl_X7_97 rfl rfl dX7_soonest_112 ?_
                          try simp only [x0, x2, x3, x4]
                          refine r_cv3u hR kv_X7_195 (by decide) (t_X6_goDay (by omega) kx0 kx2 q0 q2 (by have := blow_le (S := aS A) (d := aS A 0 + i) wr; omega) w1 hKN (ways_le 1000 (aS A) t i)) (by first | decide | assumption | (simp only [gcnt_4, gcnt_1, gcnt_2, gcnt_3, gcnt_12, gcnt_13, gcnt_16]; omega)) rfl rfl (Nat.le_of_ble_eq_true rfl) dX7_soonest_115 ?_
                          refine r_iinc5 hR (nI 1) (by decide) (fun _ h => by first | (cases h; rfl) | exact absurd h (by simp)) dX7_soonest_118 ?_
                          try rw [nI_add]
                          refine r_goto hR 62 dX7_soonest_121 (by decide) ?_
                          have ef : firstN (fun d => decide (waysN 99 (aS A) t d ce ≤ k)) (j + 1) i = firstN (fun d => decide (waysN 99 (aS A) t d ce ≤ k)) j (i + 1) := by
                            conv => lhs; unfold firstN
                            rw [if_neg (by simp only [decide_eq_true_eq]; omega)]
                          exact ih (i + 1) _ (by omega) (hX.tr ((eqX_putR N _ 36).tr (eqX_putR _ _ 36))) (fun j hj => putR_at _ 6 0 _ hj) (by rw [← ef]; exact hf)
                      · try simp (disch := omega) only [nI_ltI, nI_leI, nI_eq, bI_0, Decidable.not_not, lc_lt, lc_gt, lc_ge, lc_le, lc_eq, i64_toInt] at c79
                        try simp (disch := omega) only [cv_lt, cv_le, cv_eq, nI_toInt, cv_0] at c79
                        first
                        | omega
                        | refine r_iload5 hR dX7_soonest_82 ?_
                          refine r_iret hR dX7_soonest_84 ?_
                          have ef : firstN (fun d => decide (waysN 99 (aS A) t d ce ≤ k)) (j + 1) i = i := by
                            unfold firstN
                            rw [if_pos (by simp only [decide_eq_true_eq]; omega)]
                          refine Qc_eqX (A := A) hX w3 hK8 hc ?_
                          rw [e, ← hf, ef, if_neg (by omega)]
              refine r_aload0 hR dX7_soonest_36 ?_
              refine r_get hR (by first | decide | assumption | (simp only [gcnt_4, gcnt_1, gcnt_2, gcnt_3, gcnt_12, gcnt_13, gcnt_16]; omega)) fl_X7_10 rfl rfl dX7_soonest_37 ?_
              try simp only [s0, s2, s3, s4]
              refine r_get hR (by first | decide | assumption | (simp only [gcnt_4, gcnt_1, gcnt_2, gcnt_3, gcnt_12, gcnt_13, gcnt_16]; omega)) fl_X7_124 rfl rfl dX7_soonest_40 ?_
              try simp only [s0, s2, s3, s4]
              refine r_iload1 hR dX7_soonest_43 ?_
              refine r_aald hR (t0 := 3) (by first | decide | assumption | (simp only [gcnt_4, gcnt_1, gcnt_2, gcnt_3, gcnt_12, gcnt_13, gcnt_16]; omega)) rfl rfl rfl (by omega) (by decide) rfl dX7_soonest_44 ?_
              refine r_astore4 hR (fun _ h => by first | (cases h; rfl) | exact absurd h (by simp)) dX7_soonest_45 ?_
              refine r_aload0 hR dX7_soonest_47 ?_
              refine r_get hR (by first | decide | assumption | (simp only [gcnt_4, gcnt_1, gcnt_2, gcnt_3, gcnt_12, gcnt_13, gcnt_16]; omega)) fl_X7_39 rfl rfl dX7_soonest_48 ?_
              try simp only [s0, s2, s3, s4]
              refine r_aload4 hR dX7_soonest_51 ?_
              refine r_get hR (by first | decide | assumption | (simp only [gcnt_4, gcnt_1, gcnt_2, gcnt_3, gcnt_12, gcnt_13, gcnt_16]; omega)) fl_X7_134 rfl rfl dX7_soonest_53 ?_
              try simp only [s0, s2, s3, s4]
              rw [k1]
              refine r_cv1u hR kv_X7_189 (by decide) (t_X6_begin q1) (by first | decide | assumption | (simp only [gcnt_4, gcnt_1, gcnt_2, gcnt_3, gcnt_12, gcnt_13, gcnt_16]; omega)) rfl rfl (Nat.le_of_ble_eq_true rfl) dX7_soonest_56 ?_
              refine r_iconst hR (nI 0) (by decide) dX7_soonest_59 ?_
              refine r_istore5 hR (fun _ h => by first | (cases h; rfl) | exact absurd h (by simp)) dX7_soonest_60 ?_
              exact L 31 0 _ (by omega) (eqX_putR M _ 36) (fun j hj => putR_at M 6 0 _ hj) rfl
          · try simp (disch := omega) only [nI_ltI, nI_leI, nI_eq, bI_0, Decidable.not_not, lc_lt, lc_gt, lc_ge, lc_le, lc_eq, i64_toInt] at c26
            try simp (disch := omega) only [cv_lt, cv_le, cv_eq, nI_toInt, cv_0] at c26
            first
            | omega
            | refine r_aload0 hR dX7_soonest_29 ?_
              refine r_ldc hR ct_X7_81 dX7_soonest_30 ?_
              refine r_cv1v hR kv_X7_82 (by decide) (t_X7_findingC (n := 0) (by decide) (by decide)) (by first | decide | assumption | (simp only [gcnt_4, gcnt_1, gcnt_2, gcnt_3, gcnt_12, gcnt_13, gcnt_16]; omega)) rfl rfl (Nat.le_of_ble_eq_true rfl) dX7_soonest_32 ?_
              refine r_iret hR dX7_soonest_35 ?_
              refine Qc_fnd hc (by decide) ?_
              unfold oSoonest
              dsimp only [okI, okT]
              (repeat' split) <;> first | rfl | omega

def QcL (M : gM) (R : Int64 × gA) (v : Option Value) (M' : gM) : Prop := v = some (.long R.1) ∧ clsP M' R.2 ∧ keepM M M'
def QmL (M : gM) (R : Int64 × gA) (v : Option Value) (M' : gM) : Prop := v = some (.long R.1) ∧ mdlP M' R.2 ∧ keepC M M'

set_option maxHeartbeats 4000000 in
set_option maxRecDepth 100000 in
theorem t_X7_reach {G : gG} {M : gM} {A : gA} {x y : Int32} (hc : clsP M A) (hw : wfA A) : Ct G mX7_reach 4 [.ref (ad G 0 0), .int x, .int y] M (QcL M (oReach A x y)) := by
  obtain ⟨hwf, hday, hwk, hk2, hl, hT, hsh⟩ := id hw
  obtain ⟨w0, w1, w2, w3, wr, wt⟩ := id hwf
  obtain ⟨s0, s2, s3, s4, sr, sth⟩ := id hc.1
  have hK8 : ak A = 1 → aK A 3 ≤ 8 := fun z => (hwk z).1.2.2.2.1
  refine Ct.of (by decide +kernel) (k := 2) (ls0 := [some (.ref (ad G 0 0)), some (.int x), some (.int y), none, none]) rfl rfl (fun _ _ => trivial) ?_
  intro P hR
  refine r_aload0 hR dX7_reach_0 ?_
  refine r_get hR (by first | decide | assumption | (simp only [gcnt_4, gcnt_1, gcnt_2, gcnt_3, gcnt_12, gcnt_13, gcnt_16]; omega)) fl_X7_10 rfl rfl dX7_reach_1 ?_
  try simp only [s0, s2, s3, s4]
  refine r_iload1 hR dX7_reach_4 ?_
  refine r_cv1v hR kv_X7_121 (by decide) (t_X1_has (by decide) hc.1 w3) (by first | decide | assumption | (simp only [gcnt_4, gcnt_1, gcnt_2, gcnt_3, gcnt_12, gcnt_13, gcnt_16]; omega)) rfl rfl (Nat.le_of_ble_eq_true rfl) dX7_reach_5 ?_
  refine r_if_eq hR 20 dX7_reach_8 (by decide) (fun c8 => ?_) (fun c8 => ?_)
  · try simp (disch := omega) only [nI_ltI, nI_leI, nI_eq, bI_0, Decidable.not_not, lc_lt, lc_gt, lc_ge, lc_le, lc_eq, i64_toInt] at c8
    try simp (disch := omega) only [cv_lt, cv_le, cv_eq, nI_toInt, cv_0] at c8
    first
    | omega
    | refine r_aload0 hR dX7_reach_20 ?_
      refine r_ldc hR ct_X7_81 dX7_reach_21 ?_
      refine r_cv1v hR kv_X7_82 (by decide) (t_X7_findingC (n := 0) (by decide) (by decide)) (by first | decide | assumption | (simp only [gcnt_4, gcnt_1, gcnt_2, gcnt_3, gcnt_12, gcnt_13, gcnt_16]; omega)) rfl rfl (Nat.le_of_ble_eq_true rfl) dX7_reach_23 ?_
      refine r_i2l hR dX7_reach_26 ?_
      refine r_lret hR dX7_reach_27 ?_
      have e : oReach A x y = fndL A 0 := by
        unfold oReach
        rw [if_neg (by dsimp only [okI, okT]; omega)]
        rfl
      unfold QcL
      rw [e]
      exact ⟨rfl, clsP_fnd hc (by decide), keepM_seti M 0 0 _ (by decide)⟩
  · try simp (disch := omega) only [nI_ltI, nI_leI, nI_eq, bI_0, Decidable.not_not, lc_lt, lc_gt, lc_ge, lc_le, lc_eq, i64_toInt] at c8
    try simp (disch := omega) only [cv_lt, cv_le, cv_eq, nI_toInt, cv_0] at c8
    first
    | omega
    | refine r_iload2 hR dX7_reach_11 ?_
      refine r_bipush hR (nI 30) (by decide) dX7_reach_12 ?_
      refine r_cs2v hR ks_X7_77 (by decide) (t_X7_within) (Nat.le_of_ble_eq_true rfl) dX7_reach_14 ?_
      refine r_if_ne hR 28 dX7_reach_17 (by decide) (fun c17 => ?_) (fun c17 => ?_)
      · try simp (disch := omega) only [nI_ltI, nI_leI, nI_eq, bI_0, Decidable.not_not, lc_lt, lc_gt, lc_ge, lc_le, lc_eq, i64_toInt] at c17
        try simp (disch := omega) only [cv_lt, cv_le, cv_eq, nI_toInt, cv_0] at c17
        first
        | omega
        | obtain ⟨n, hn, rfl⟩ := of_in (x := y) (N := 30) (by omega)
          obtain ⟨t, ht0, rfl⟩ := of_in (x := x) (N := aS A 3 - 1) (by omega)
          have htt : t < aS A 3 := by rw [nI_toInt (by omega)] at c8; omega
          have k0 : M.1 4 (8 * 0 + t) 0 = nI (thg (aS A) t 0) := sth t htt 0 (by decide)
          have k1 : M.1 4 (8 * 0 + t) 1 = nI (thg (aS A) t 1) := sth t htt 1 (by decide)
          have k2 : M.1 4 (8 * 0 + t) 2 = nI (thg (aS A) t 2) := sth t htt 2 (by decide)
          have k3 : M.1 4 (8 * 0 + t) 3 = nI (thg (aS A) t 3) := sth t htt 3 (by decide)
          have q0 : thg (aS A) t 0 < 6 := by have := wt t htt; unfold thg; rw [Nat.add_zero]; omega
          have q1 : thg (aS A) t 1 < 36 := by have := wt t htt; unfold thg; omega
          have q2 : thg (aS A) t 2 < 8 := by have := wt t htt; unfold thg; omega
          have q3 : thg (aS A) t 3 ≤ 99999 := by have := wt t htt; unfold thg; omega
          have e : oReach A (nI t) (nI n) = (lN (reaP 99 (waysN 99 (aS A) t n) 36), A) := by
            unfold oReach
            rw [if_pos (by simp (disch := omega) only [okI, okT, nI_toInt]; omega)]
            simp (disch := omega) only [uN_nI]
          have L : ∀ (j i : Nat) (N : gM), i + j = n → eqX M N → (∀ j, j < 36 → N.1 6 0 j = nI (waysN 1000 (aS A) t i j)) → P 52 [some (.ref (ad G 0 0)), some (.int (nI t)), some (.int (nI n)), some (.ref (ad G 4 (8 * 0 + t))), some (.int (nI i))] [] N := by
            intro j
            induction j with
            | zero =>
              intro i N hij hX hKN
              have kx0 : N.1 4 (8 * 0 + t) 0 = nI (thg (aS A) t 0) := by rw [hX.1 4 (8 * 0 + t) (by unfold scr; omega)]; exact k0
              have kx1 : N.1 4 (8 * 0 + t) 1 = nI (thg (aS A) t 1) := by rw [hX.1 4 (8 * 0 + t) (by unfold scr; omega)]; exact k1
              have kx2 : N.1 4 (8 * 0 + t) 2 = nI (thg (aS A) t 2) := by rw [hX.1 4 (8 * 0 + t) (by unfold scr; omega)]; exact k2
              have kx3 : N.1 4 (8 * 0 + t) 3 = nI (thg (aS A) t 3) := by rw [hX.1 4 (8 * 0 + t) (by unfold scr; omega)]; exact k3
              have hsN := seaP_eqX hX w3 hc.1
              obtain ⟨x0, x2, x3, x4, xr, xth⟩ := id hsN
              refine r_iload4 hR dX7_reach_52 ?_
              refine r_iload2 hR dX7_reach_54 ?_
              refine r_icmp_ge hR 96 dX7_reach_55 (by decide) (fun c55 => ?_) (fun c55 => ?_)
              · try simp (disch := omega) only [nI_ltI, nI_leI, nI_eq, bI_0, Decidable.not_not, lc_lt, lc_gt, lc_ge, lc_le, lc_eq, i64_toInt] at c55
                try simp (disch := omega) only [cv_lt, cv_le, cv_eq, nI_toInt, cv_0] at c55
                first
                | omega
                | refine r_aload0 hR dX7_reach_96 ?_
                  refine r_get hR (by first | decide | assumption | (simp only [gcnt_4, gcnt_1, gcnt_2, gcnt_3, gcnt_12, gcnt_13, gcnt_16]; omega)) fl_X7_39 rfl rfl dX7_reach_97 ?_
                  try simp only [x0, x2, x3, x4]
                  refine r_cv0v hR kv_X7_203 (by decide) (t_X6_reached hKN (ways_le 1000 (aS A) t i)) (by first | decide | assumption | (simp only [gcnt_4, gcnt_1, gcnt_2, gcnt_3, gcnt_12, gcnt_13, gcnt_16]; omega)) rfl rfl (Nat.le_of_ble_eq_true rfl) dX7_reach_100 ?_
                  refine r_lret hR dX7_reach_103 ?_
                  obtain rfl : i = n := by omega
                  rw [rlC_rea (aS A) t i (by omega) 36]
                  unfold QcL
                  rw [e]
                  exact ⟨rfl, clsP_eqX hX w3 hK8 hc, hX.keepM⟩
              · try simp (disch := omega) only [nI_ltI, nI_leI, nI_eq, bI_0, Decidable.not_not, lc_lt, lc_gt, lc_ge, lc_le, lc_eq, i64_toInt] at c55
                try simp (disch := omega) only [cv_lt, cv_le, cv_eq, nI_toInt, cv_0] at c55
                first
                | omega
                | refine r_aload0 hR dX7_reach_58 ?_
                  refine r_get hR (by first | decide | assumption | (simp only [gcnt_4, gcnt_1, gcnt_2, gcnt_3, gcnt_12, gcnt_13, gcnt_16]; omega)) fl_X7_39 rfl rfl dX7_reach_59 ?_
                  try simp only [x0, x2, x3, x4]
                  refine r_aload3 hR dX7_reach_62 ?_
                  refine r_aload0 hR dX7_reach_63 ?_
                  refine r_get hR (by first | decide | assumption | (simp only [gcnt_4, gcnt_1, gcnt_2, gcnt_3, gcnt_12, gcnt_13, gcnt_16]; omega)) fl_X7_10 rfl rfl dX7_reach_64 ?_
                  try simp only [x0, x2, x3, x4]
                  refine r_aload0 hR dX7_reach_67 ?_
                  refine r_get hR (by first | decide | assumption | (simp only [gcnt_4, gcnt_1, gcnt_2, gcnt_3, gcnt_12, gcnt_13, gcnt_16]; omega)) fl_X7_10 rfl rfl dX7_reach_68 ?_
                  try simp only [x0, x2, x3, x4]
                  refine r_get hR (by first | decide | assumption | (simp only [gcnt_4, gcnt_1, gcnt_2, gcnt_3, gcnt_12, gcnt_13, gcnt_16]; omega)) fl_X7_128 rfl rfl dX7_reach_71 ?_
                  try simp only [x0, x2, x3, x4]
                  refine r_iload4 hR dX7_reach_74 ?_
                  refine r_iadd hR dX7_reach_76 ?_
                  try rw [nI_add]
                  refine r_cv1v hR kv_X7_101 (by decide) (t_X1_windOn (by decide) hsN hwf (by omega)) (by first | decide | assumption | (simp only [gcnt_4, gcnt_1, gcnt_2, gcnt_3, gcnt_12, gcnt_13, gcnt_16]; omega)) rfl rfl (Nat.le_of_ble_eq_true rfl) dX7_reach_77 ?_
                  refine r_aload0 hR dX7_reach_80 ?_
                  refine r_get hR (by first | decide | assumption | (simp only [gcnt_4, gcnt_1, gcnt_2, gcnt_3, gcnt_12, gcnt_13, gcnt_16]; omega)) fl_X7_10 rfl rfl dX7_reach_81 ?_
                  try simp only [x0, x2, x3, x4]
                  refine r_get hR (by first | decide | assumption | (simp only [gcnt_4, gcnt_1, gcnt_2, gcnt_3, gcnt_12, gcnt_13, gcnt_16]; omega)) fl_X7_97 rfl rfl dX7_reach_84 ?_
                  try simp only [x0, x2, x3, x4]
                  refine r_cv3u hR kv_X7_195 (by decide) (t_X6_goDay (by omega) kx0 kx2 q0 q2 (by have := blow_le (S := aS A) (d := aS A 0 + i) wr; omega) w1 hKN (ways_le 1000 (aS A) t i)) (by first | decide | assumption | (simp only [gcnt_4, gcnt_1, gcnt_2, gcnt_3, gcnt_12, gcnt_13, gcnt_16]; omega)) rfl rfl (Nat.le_of_ble_eq_true rfl) dX7_reach_87 ?_
                  refine r_iinc4 hR (nI 1) (by decide) (fun _ h => by first | (cases h; rfl) | exact absurd h (by simp)) dX7_reach_90 ?_
                  try rw [nI_add]
                  refine r_goto hR 52 dX7_reach_93 (by decide) ?_
                  omega
            | succ j ih =>
              intro i N hij hX hKN
              have kx0 : N.1 4 (8 * 0 + t) 0 = nI (thg (aS A) t 0) := by rw [hX.1 4 (8 * 0 + t) (by unfold scr; omega)]; exact k0
              have kx1 : N.1 4 (8 * 0 + t) 1 = nI (thg (aS A) t 1) := by rw [hX.1 4 (8 * 0 + t) (by unfold scr; omega)]; exact k1
              have kx2 : N.1 4 (8 * 0 + t) 2 = nI (thg (aS A) t 2) := by rw [hX.1 4 (8 * 0 + t) (by unfold scr; omega)]; exact k2
              have kx3 : N.1 4 (8 * 0 + t) 3 = nI (thg (aS A) t 3) := by rw [hX.1 4 (8 * 0 + t) (by unfold scr; omega)]; exact k3
              have hsN := seaP_eqX hX w3 hc.1
              obtain ⟨x0, x2, x3, x4, xr, xth⟩ := id hsN
              refine r_iload4 hR dX7_reach_52 ?_
              refine r_iload2 hR dX7_reach_54 ?_
              refine r_icmp_ge hR 96 dX7_reach_55 (by decide) (fun c55 => ?_) (fun c55 => ?_)
              · try simp (disch := omega) only [nI_ltI, nI_leI, nI_eq, bI_0, Decidable.not_not, lc_lt, lc_gt, lc_ge, lc_le, lc_eq, i64_toInt] at c55
                try simp (disch := omega) only [cv_lt, cv_le, cv_eq, nI_toInt, cv_0] at c55
                first
                | omega
                | refine r_aload0 hR dX7_reach_96 ?_
                  refine r_get hR (by first | decide | assumption | (simp only [gcnt_4, gcnt_1, gcnt_2, gcnt_3, gcnt_12, gcnt_13, gcnt_16]; omega)) fl_X7_39 rfl rfl dX7_reach_97 ?_
                  try simp only [x0, x2, x3, x4]
                  refine r_cv0v hR kv_X7_203 (by decide) (t_X6_reached hKN (ways_le 1000 (aS A) t i)) (by first | decide | assumption | (simp only [gcnt_4, gcnt_1, gcnt_2, gcnt_3, gcnt_12, gcnt_13, gcnt_16]; omega)) rfl rfl (Nat.le_of_ble_eq_true rfl) dX7_reach_100 ?_
                  refine r_lret hR dX7_reach_103 ?_
                  obtain rfl : i = n := by omega
                  rw [rlC_rea (aS A) t i (by omega) 36]
                  unfold QcL
                  rw [e]
                  exact ⟨rfl, clsP_eqX hX w3 hK8 hc, hX.keepM⟩
              · try simp (disch := omega) only [nI_ltI, nI_leI, nI_eq, bI_0, Decidable.not_not, lc_lt, lc_gt, lc_ge, lc_le, lc_eq, i64_toInt] at c55
                try simp (disch := omega) only [cv_lt, cv_le, cv_eq, nI_toInt, cv_0] at c55
                first
                | omega
                | refine r_aload0 hR dX7_reach_58 ?_
                  refine r_get hR (by first | decide | assumption | (simp only [gcnt_4, gcnt_1, gcnt_2, gcnt_3, gcnt_12, gcnt_13, gcnt_16]; omega)) fl_X7_39 rfl rfl dX7_reach_59 ?_
                  try simp only [x0, x2, x3, x4]
                  refine r_aload3 hR dX7_reach_62 ?_
                  refine r_aload0 hR dX7_reach_63 ?_
                  refine r_get hR (by first | decide | assumption | (simp only [gcnt_4, gcnt_1, gcnt_2, gcnt_3, gcnt_12, gcnt_13, gcnt_16]; omega)) fl_X7_10 rfl rfl dX7_reach_64 ?_
                  try simp only [x0, x2, x3, x4]
                  refine r_aload0 hR dX7_reach_67 ?_
                  refine r_get hR (by first | decide | assumption | (simp only [gcnt_4, gcnt_1, gcnt_2, gcnt_3, gcnt_12, gcnt_13, gcnt_16]; omega)) fl_X7_10 rfl rfl dX7_reach_68 ?_
                  try simp only [x0, x2, x3, x4]
                  refine r_get hR (by first | decide | assumption | (simp only [gcnt_4, gcnt_1, gcnt_2, gcnt_3, gcnt_12, gcnt_13, gcnt_16]; omega)) fl_X7_128 rfl rfl dX7_reach_71 ?_
                  try simp only [x0, x2, x3, x4]
                  refine r_iload4 hR dX7_reach_74 ?_
                  refine r_iadd hR dX7_reach_76 ?_
                  try rw [nI_add]
                  refine r_cv1v hR kv_X7_101 (by decide) (t_X1_windOn (by decide) hsN hwf (by omega)) (by first | decide | assumption | (simp only [gcnt_4, gcnt_1, gcnt_2, gcnt_3, gcnt_12, gcnt_13, gcnt_16]; omega)) rfl rfl (Nat.le_of_ble_eq_true rfl) dX7_reach_77 ?_
                  refine r_aload0 hR dX7_reach_80 ?_
                  refine r_get hR (by first | decide | assumption | (simp only [gcnt_4, gcnt_1, gcnt_2, gcnt_3, gcnt_12, gcnt_13, gcnt_16]; omega)) fl_X7_10 rfl rfl dX7_reach_81 ?_
                  try simp only [x0, x2, x3, x4]
                  refine r_get hR (by first | decide | assumption | (simp only [gcnt_4, gcnt_1, gcnt_2, gcnt_3, gcnt_12, gcnt_13, gcnt_16]; omega)) fl_X7_97 rfl rfl dX7_reach_84 ?_
                  try simp only [x0, x2, x3, x4]
                  refine r_cv3u hR kv_X7_195 (by decide) (t_X6_goDay (by omega) kx0 kx2 q0 q2 (by have := blow_le (S := aS A) (d := aS A 0 + i) wr; omega) w1 hKN (ways_le 1000 (aS A) t i)) (by first | decide | assumption | (simp only [gcnt_4, gcnt_1, gcnt_2, gcnt_3, gcnt_12, gcnt_13, gcnt_16]; omega)) rfl rfl (Nat.le_of_ble_eq_true rfl) dX7_reach_87 ?_
                  refine r_iinc4 hR (nI 1) (by decide) (fun _ h => by first | (cases h; rfl) | exact absurd h (by simp)) dX7_reach_90 ?_
                  try rw [nI_add]
                  refine r_goto hR 52 dX7_reach_93 (by decide) ?_
                  exact ih (i + 1) _ (by omega) (hX.tr ((eqX_putR N _ 36).tr (eqX_putR _ _ 36))) (fun j hj => putR_at _ 6 0 _ hj)
          refine r_aload0 hR dX7_reach_28 ?_
          refine r_get hR (by first | decide | assumption | (simp only [gcnt_4, gcnt_1, gcnt_2, gcnt_3, gcnt_12, gcnt_13, gcnt_16]; omega)) fl_X7_10 rfl rfl dX7_reach_29 ?_
          try simp only [s0, s2, s3, s4]
          refine r_get hR (by first | decide | assumption | (simp only [gcnt_4, gcnt_1, gcnt_2, gcnt_3, gcnt_12, gcnt_13, gcnt_16]; omega)) fl_X7_124 rfl rfl dX7_reach_32 ?_
          try simp only [s0, s2, s3, s4]
          refine r_iload1 hR dX7_reach_35 ?_
          refine r_aald hR (t0 := 3) (by first | decide | assumption | (simp only [gcnt_4, gcnt_1, gcnt_2, gcnt_3, gcnt_12, gcnt_13, gcnt_16]; omega)) rfl rfl rfl (by omega) (by decide) rfl dX7_reach_36 ?_
          refine r_astore3 hR (fun _ h => by first | (cases h; rfl) | exact absurd h (by simp)) dX7_reach_37 ?_
          refine r_aload0 hR dX7_reach_38 ?_
          refine r_get hR (by first | decide | assumption | (simp only [gcnt_4, gcnt_1, gcnt_2, gcnt_3, gcnt_12, gcnt_13, gcnt_16]; omega)) fl_X7_39 rfl rfl dX7_reach_39 ?_
          try simp only [s0, s2, s3, s4]
          refine r_aload3 hR dX7_reach_42 ?_
          refine r_get hR (by first | decide | assumption | (simp only [gcnt_4, gcnt_1, gcnt_2, gcnt_3, gcnt_12, gcnt_13, gcnt_16]; omega)) fl_X7_134 rfl rfl dX7_reach_43 ?_
          try simp only [s0, s2, s3, s4]
          rw [k1]
          refine r_cv1u hR kv_X7_189 (by decide) (t_X6_begin q1) (by first | decide | assumption | (simp only [gcnt_4, gcnt_1, gcnt_2, gcnt_3, gcnt_12, gcnt_13, gcnt_16]; omega)) rfl rfl (Nat.le_of_ble_eq_true rfl) dX7_reach_46 ?_
          refine r_iconst hR (nI 0) (by decide) dX7_reach_49 ?_
          refine r_istore4 hR (fun _ h => by first | (cases h; rfl) | exact absurd h (by simp)) dX7_reach_50 ?_
          exact L n 0 _ (by omega) (eqX_putR M _ 36) (fun j hj => putR_at M 6 0 _ hj)
      · try simp (disch := omega) only [nI_ltI, nI_leI, nI_eq, bI_0, Decidable.not_not, lc_lt, lc_gt, lc_ge, lc_le, lc_eq, i64_toInt] at c17
        try simp (disch := omega) only [cv_lt, cv_le, cv_eq, nI_toInt, cv_0] at c17
        first
        | omega
        | refine r_aload0 hR dX7_reach_20 ?_
          refine r_ldc hR ct_X7_81 dX7_reach_21 ?_
          refine r_cv1v hR kv_X7_82 (by decide) (t_X7_findingC (n := 0) (by decide) (by decide)) (by first | decide | assumption | (simp only [gcnt_4, gcnt_1, gcnt_2, gcnt_3, gcnt_12, gcnt_13, gcnt_16]; omega)) rfl rfl (Nat.le_of_ble_eq_true rfl) dX7_reach_23 ?_
          refine r_i2l hR dX7_reach_26 ?_
          refine r_lret hR dX7_reach_27 ?_
          have e : oReach A x y = fndL A 0 := by
            unfold oReach
            rw [if_neg (by dsimp only [okI, okT]; omega)]
            rfl
          unfold QcL
          rw [e]
          exact ⟨rfl, clsP_fnd hc (by decide), keepM_seti M 0 0 _ (by decide)⟩

