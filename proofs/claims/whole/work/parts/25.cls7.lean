theorem rdN_s (S : Nat → Nat) (t : Nat) (f : Nat → Int64) (z k : Nat) : rdN S t f z (k + 1) = rdN S t f z k + (if isBk (kfS S t k) t f z = true then 1 else 0) := rfl
set_option maxHeartbeats 4000000 in
set_option maxRecDepth 100000 in
theorem t_X7_read {G : gG} {M : gM} {A : gA} {x y : Int32} (hc : clsP M A) (hw : wfA A) : Ct G mX7_read 6 [.ref (ad G 0 0), .int x, .int y] M (Qc M (oRead A x y)) := by
  obtain ⟨hwf, hday, hwk, hk2, hl, hT, hsh⟩ := id hw
  obtain ⟨w0, w1, w2, w3, wr, wt⟩ := id hwf
  obtain ⟨s0, s2, s3, s4, sr, sth⟩ := id hc.1
  have hK8 : ak A = 1 → aK A 3 ≤ 8 := fun z => (hwk z).1.2.2.2.1
  refine Ct.of (by decide +kernel) (k := 4) (ls0 := [some (.ref (ad G 0 0)), some (.int x), some (.int y), none, none, none, none]) rfl rfl (fun _ _ => trivial) ?_
  intro P hR
  have hc3 := hc.2.2.1
  have hc4 := hc.2.2.2.1
  have hc5 := hc.2.2.2.2.1
  have hc6 := hc.2.2.2.2.2.1
  have hc7 := hc.2.2.2.2.2.2
  by_cases h1 : okI x 0 3
  · by_cases h2 : ab A (uN x) = 0
    · have hs : shF A x y = -1000000006 := by unfold shF; rw [if_pos h1, if_pos h2]
      refine r_aload0 hR dX7_read_0 ?_
      refine r_iload1 hR dX7_read_1 ?_
      refine r_iload2 hR dX7_read_2 ?_
      refine r_cv2v hR kv_X7_261 (by decide) (t_X7_sheetFinding hc hw) (by first | decide | assumption | (simp only [gcnt_4, gcnt_1, gcnt_2, gcnt_3, gcnt_12, gcnt_13, gcnt_16]; omega)) rfl rfl (Nat.le_of_ble_eq_true rfl) dX7_read_3 ?_
      rw [hs]
      refine r_istore3 hR (fun _ h => by first | (cases h; rfl) | exact absurd h (by simp)) dX7_read_6 ?_
      refine r_iload3 hR dX7_read_7 ?_
      refine r_if_eq hR 17 dX7_read_8 (by decide) (fun c8 => absurd c8 (by decide)) (fun c8 => ?_)
      refine r_aload0 hR dX7_read_11 ?_
      refine r_iload3 hR dX7_read_12 ?_
      refine r_cv1v hR kv_X7_82 (by decide) (t_X7_findingC (n := 5) (by decide) (by decide)) (by first | decide | assumption | (simp only [gcnt_4, gcnt_1, gcnt_2, gcnt_3, gcnt_12, gcnt_13, gcnt_16]; omega)) rfl rfl (Nat.le_of_ble_eq_true rfl) dX7_read_13 ?_
      refine r_iret hR dX7_read_16 ?_
      refine Qc_fnd hc (by decide) ?_
      unfold oRead
      rw [if_pos h1, if_pos h2]
    · by_cases h3 : okT A y
      · have hs : shF A x y = nI 0 := by unfold shF; rw [if_pos h1, if_neg h2, if_pos h3]
        obtain ⟨s, hs3, rfl⟩ := of_in (x := x) (N := 3) h1
        rw [uN_nI (by omega)] at h2
        have h3b := h3
        dsimp only [okT] at h3b
        obtain ⟨t, ht0, rfl⟩ := of_in (x := y) (N := aS A 3 - 1) (by omega)
        have htt : t < aS A 3 := by rw [nI_toInt (by omega)] at h3b; omega
        obtain ⟨g0, g1, g2⟩ := hc6 s (by omega)
        have hb9 : ab A s < 100 := by have := (hsh s (by omega)).1; omega
        have hz4 := (hsh s (by omega)).2
        have k0 : M.1 4 (8 * 0 + t) 0 = nI (thg (aS A) t 0) := sth t htt 0 (by decide)
        have k1 : M.1 4 (8 * 0 + t) 1 = nI (thg (aS A) t 1) := sth t htt 1 (by decide)
        have k2 : M.1 4 (8 * 0 + t) 2 = nI (thg (aS A) t 2) := sth t htt 2 (by decide)
        have k3 : M.1 4 (8 * 0 + t) 3 = nI (thg (aS A) t 3) := sth t htt 3 (by decide)
        have q0 : thg (aS A) t 0 < 6 := by have := wt t htt; unfold thg; rw [Nat.add_zero]; omega
        have q1 : thg (aS A) t 1 < 36 := by have := wt t htt; unfold thg; omega
        have q2 : thg (aS A) t 2 < 8 := by have := wt t htt; unfold thg; omega
        have q3 : thg (aS A) t 3 ≤ 99999 := by have := wt t htt; unfold thg; omega
        have e : oRead A (nI s) (nI t) = (nI (rdN (aS A) t (an A s) (az A s) (48)), A) := by
          unfold oRead
          rw [if_pos h1, uN_nI (by omega), if_neg h2, if_pos h3, uN_nI (by omega)]
        have L1 : ∀ (j k : Nat) (N : gM) (x6 : Option Value), k + j = 6 → eqX M N → P 23 [some (.ref (ad G 0 0)), some (.int (nI s)), some (.int (nI t)), some (.int (nI 0)), some (.int (nI (rdN (aS A) t (an A s) (az A s) (8 * k)))), some (.int (nI k)), x6] [] N := by
          intro j
          induction j with
          | zero =>
            intro k N x6 hij hX
            refine r_iload5 hR dX7_read_23 ?_
            refine r_bipush hR (nI 6) (by decide) dX7_read_25 ?_
            refine r_icmp_ge hR 102 dX7_read_27 (by decide) (fun c27 => ?_) (fun c27 => ?_)
            · try simp (disch := omega) only [nI_ltI, nI_leI, nI_eq, bI_0, Decidable.not_not, lc_lt, lc_gt, lc_ge, lc_le, lc_eq, i64_toInt] at c27
              try simp (disch := omega) only [cv_lt, cv_le, cv_eq, nI_toInt, cv_0] at c27
              first
              | omega
              | refine r_iload4 hR dX7_read_102 ?_
                refine r_iret hR dX7_read_104 ?_
                obtain rfl : k = 6 := by omega
                exact Qc_eqX (A := A) hX w3 hK8 hc e
            · try simp (disch := omega) only [nI_ltI, nI_leI, nI_eq, bI_0, Decidable.not_not, lc_lt, lc_gt, lc_ge, lc_le, lc_eq, i64_toInt] at c27
              try simp (disch := omega) only [cv_lt, cv_le, cv_eq, nI_toInt, cv_0] at c27
              first
              | omega
              | refine r_iconst hR (nI 0) (by decide) dX7_read_30 ?_
                refine r_istore6 hR (fun _ h => by first | (cases h; rfl) | exact absurd h (by simp)) dX7_read_31 ?_
                omega
          | succ j ih =>
            intro k N x6 hij hX
            have L2 : ∀ (j2 w : Nat) (N : gM), w + j2 = 8 → eqX M N → P 33 [some (.ref (ad G 0 0)), some (.int (nI s)), some (.int (nI t)), some (.int (nI 0)), some (.int (nI (rdN (aS A) t (an A s) (az A s) (8 * k + w)))), some (.int (nI k)), some (.int (nI w))] [] N := by
              intro j2
              induction j2 with
              | zero =>
                intro w N hw2 hX
                have hsN := seaP_eqX hX w3 hc.1
                obtain ⟨x0, x2, x3, x4, xr, xth⟩ := id hsN
                have hrd := rdN_le (aS A) t (an A s) (az A s) (8 * k + w)
                refine r_iload6 hR dX7_read_33 ?_
                refine r_bipush hR (nI 8) (by decide) dX7_read_35 ?_
                refine r_icmp_ge hR 96 dX7_read_37 (by decide) (fun c37 => ?_) (fun c37 => ?_)
                · try simp (disch := omega) only [nI_ltI, nI_leI, nI_eq, bI_0, Decidable.not_not, lc_lt, lc_gt, lc_ge, lc_le, lc_eq, i64_toInt] at c37
                  try simp (disch := omega) only [cv_lt, cv_le, cv_eq, nI_toInt, cv_0] at c37
                  first
                  | omega
                  | refine r_iinc5 hR (nI 1) (by decide) (fun _ h => by first | (cases h; rfl) | exact absurd h (by simp)) dX7_read_96 ?_
                    try rw [nI_add]
                    refine r_goto hR 23 dX7_read_99 (by decide) ?_
                    obtain rfl : w = 8 := by omega
                    have := ih (k + 1) N (some (.int (nI 8))) (by omega) hX
                    rw [show 8 * (k + 1) = 8 * k + 8 by omega] at this
                    exact this
                · try simp (disch := omega) only [nI_ltI, nI_leI, nI_eq, bI_0, Decidable.not_not, lc_lt, lc_gt, lc_ge, lc_le, lc_eq, i64_toInt] at c37
                  try simp (disch := omega) only [cv_lt, cv_le, cv_eq, nI_toInt, cv_0] at c37
                  first
                  | omega
                  | refine r_aload0 hR dX7_read_40 ?_
                    refine r_get hR (by first | decide | assumption | (simp only [gcnt_4, gcnt_1, gcnt_2, gcnt_3, gcnt_12, gcnt_13, gcnt_16]; omega)) fl_X7_29 rfl rfl dX7_read_41 ?_
                    refine r_aload0 hR dX7_read_44 ?_
                    refine r_get hR (by first | decide | assumption | (simp only [gcnt_4, gcnt_1, gcnt_2, gcnt_3, gcnt_12, gcnt_13, gcnt_16]; omega)) fl_X7_10 rfl rfl dX7_read_45 ?_
                    refine r_get hR (by first | decide | assumption | (simp only [gcnt_4, gcnt_1, gcnt_2, gcnt_3, gcnt_12, gcnt_13, gcnt_16]; omega)) fl_X7_124 rfl rfl dX7_read_48 ?_
                    refine r_iload2 hR dX7_read_51 ?_
                    refine r_aald hR (t0 := 3) (by first | decide | assumption | (simp only [gcnt_4, gcnt_1, gcnt_2, gcnt_3, gcnt_12, gcnt_13, gcnt_16]; omega)) rfl rfl rfl (by omega) (by decide) rfl dX7_read_52 ?_
                    refine r_cv1u hR kv_X7_181 (by decide) (t_X5_become (by decide) (by omega)) (by first | decide | assumption | (simp only [gcnt_4, gcnt_1, gcnt_2, gcnt_3, gcnt_12, gcnt_13, gcnt_16]; omega)) rfl rfl (Nat.le_of_ble_eq_true rfl) dX7_read_53 ?_
                    rw [hX.1 4 (8 * 0 + t) (by unfold scr; omega), k0, k1, k2, k3]
                    refine r_aload0 hR dX7_read_56 ?_
                    refine r_get hR (by first | decide | assumption | (simp only [gcnt_4, gcnt_1, gcnt_2, gcnt_3, gcnt_12, gcnt_13, gcnt_16]; omega)) fl_X7_29 rfl rfl dX7_read_57 ?_
                    refine r_iload5 hR dX7_read_60 ?_
                    refine r_puti hR (by first | decide | assumption | (simp only [gcnt_4, gcnt_1, gcnt_2, gcnt_3, gcnt_12, gcnt_13, gcnt_16]; omega)) fp_X7_131 rfl rfl (Nat.le_of_ble_eq_true rfl) rfl rfl dX7_read_62 ?_
                    refine r_aload0 hR dX7_read_65 ?_
                    refine r_get hR (by first | decide | assumption | (simp only [gcnt_4, gcnt_1, gcnt_2, gcnt_3, gcnt_12, gcnt_13, gcnt_16]; omega)) fl_X7_29 rfl rfl dX7_read_66 ?_
                    refine r_iload6 hR dX7_read_69 ?_
                    refine r_puti hR (by first | decide | assumption | (simp only [gcnt_4, gcnt_1, gcnt_2, gcnt_3, gcnt_12, gcnt_13, gcnt_16]; omega)) fp_X7_137 rfl rfl (Nat.le_of_ble_eq_true rfl) rfl rfl dX7_read_71 ?_
                    refine r_aload0 hR dX7_read_74 ?_
                    refine r_aload0 hR dX7_read_75 ?_
                    refine r_get hR (by first | decide | assumption | (simp only [gcnt_4, gcnt_1, gcnt_2, gcnt_3, gcnt_12, gcnt_13, gcnt_16]; omega)) fl_X7_68 rfl rfl dX7_read_76 ?_
                    refine r_iload1 hR dX7_read_79 ?_
                    refine r_aald hR (t0 := 2) (by first | decide | assumption | (simp only [gcnt_4, gcnt_1, gcnt_2, gcnt_3, gcnt_12, gcnt_13, gcnt_16]; omega)) rfl rfl rfl (by omega) (by decide) rfl dX7_read_80 ?_
                    refine r_mem (M2 := (putTh N 24 k (thg (aS A) t 1) w (thg (aS A) t 3))) (putTh_kf N 24 (thg (aS A) t 0) (thg (aS A) t 1) (thg (aS A) t 2) (thg (aS A) t 3) k w) ?_
                    have hXw : eqX M (putTh N 24 k (thg (aS A) t 1) w (thg (aS A) t 3)) := hX.tr (eqX_putTh N (by decide))
                    have hk8 : (8 * k + w) / 8 = k := by omega
                    have hw8 : (8 * k + w) % 8 = w := by omega
                    refine g_callV hR (As := [.ref (ad G 12 s)]) (st := []) kv_X7_264 (by decide) rfl (t_X7_walkerMakes (S := kfS (aS A) t (8 * k + w)) (t := t) (clsP_eqX hXw w3 hK8 hc) hw (by omega) (fun x hx => kfS_lo hx) (wf_kfS hwf htt (by omega)) (by rw [kfS_lo (by omega)]; exact htt) (by rw [kfS_k, hk8]; simp [putTh_r]) (by rw [kfS_c]; simp [putTh_r]) (by rw [kfS_f, hw8]; simp [putTh_r]) (by rw [kfS_s]; simp [putTh_r])) (fun s0 H locs q1 q2 q3 => g_recv q1 q2 (by decide) rfl rfl) rfl (Nat.le_of_ble_eq_true rfl) dX7_read_81 (fun v M1 hq => ?_)
                    obtain ⟨rfl, hX2⟩ := hq
                    have hX3 := hXw.tr hX2
                    show P _ _ [.int (bI (isBk (kfS (aS A) t (8 * k + w)) t (an A s) (az A s) = true))] M1
                    refine r_if_eq hR 90 dX7_read_84 (by decide) (fun c84 => ?_) (fun c84 => ?_)
                    · try simp (disch := omega) only [nI_ltI, nI_leI, nI_eq, bI_0, Decidable.not_not, lc_lt, lc_gt, lc_ge, lc_le, lc_eq, i64_toInt] at c84
                      try simp (disch := omega) only [cv_lt, cv_le, cv_eq, nI_toInt, cv_0] at c84
                      first
                      | omega
                      | refine r_iinc6 hR (nI 1) (by decide) (fun _ h => by first | (cases h; rfl) | exact absurd h (by simp)) dX7_read_90 ?_
                        try rw [nI_add]
                        refine r_goto hR 33 dX7_read_93 (by decide) ?_
                        omega
                    · try simp (disch := omega) only [nI_ltI, nI_leI, nI_eq, bI_0, Decidable.not_not, lc_lt, lc_gt, lc_ge, lc_le, lc_eq, i64_toInt] at c84
                      try simp (disch := omega) only [cv_lt, cv_le, cv_eq, nI_toInt, cv_0] at c84
                      first
                      | omega
                      | refine r_iinc4 hR (nI 1) (by decide) (fun _ h => by first | (cases h; rfl) | exact absurd h (by simp)) dX7_read_87 ?_
                        try rw [nI_add]
                        refine r_iinc6 hR (nI 1) (by decide) (fun _ h => by first | (cases h; rfl) | exact absurd h (by simp)) dX7_read_90 ?_
                        try rw [nI_add]
                        refine r_goto hR 33 dX7_read_93 (by decide) ?_
                        omega
              | succ j2 ih2 =>
                intro w N hw2 hX
                have hsN := seaP_eqX hX w3 hc.1
                obtain ⟨x0, x2, x3, x4, xr, xth⟩ := id hsN
                have hrd := rdN_le (aS A) t (an A s) (az A s) (8 * k + w)
                refine r_iload6 hR dX7_read_33 ?_
                refine r_bipush hR (nI 8) (by decide) dX7_read_35 ?_
                refine r_icmp_ge hR 96 dX7_read_37 (by decide) (fun c37 => ?_) (fun c37 => ?_)
                · try simp (disch := omega) only [nI_ltI, nI_leI, nI_eq, bI_0, Decidable.not_not, lc_lt, lc_gt, lc_ge, lc_le, lc_eq, i64_toInt] at c37
                  try simp (disch := omega) only [cv_lt, cv_le, cv_eq, nI_toInt, cv_0] at c37
                  first
                  | omega
                  | refine r_iinc5 hR (nI 1) (by decide) (fun _ h => by first | (cases h; rfl) | exact absurd h (by simp)) dX7_read_96 ?_
                    try rw [nI_add]
                    refine r_goto hR 23 dX7_read_99 (by decide) ?_
                    omega
                · try simp (disch := omega) only [nI_ltI, nI_leI, nI_eq, bI_0, Decidable.not_not, lc_lt, lc_gt, lc_ge, lc_le, lc_eq, i64_toInt] at c37
                  try simp (disch := omega) only [cv_lt, cv_le, cv_eq, nI_toInt, cv_0] at c37
                  first
                  | omega
                  | refine r_aload0 hR dX7_read_40 ?_
                    refine r_get hR (by first | decide | assumption | (simp only [gcnt_4, gcnt_1, gcnt_2, gcnt_3, gcnt_12, gcnt_13, gcnt_16]; omega)) fl_X7_29 rfl rfl dX7_read_41 ?_
                    refine r_aload0 hR dX7_read_44 ?_
                    refine r_get hR (by first | decide | assumption | (simp only [gcnt_4, gcnt_1, gcnt_2, gcnt_3, gcnt_12, gcnt_13, gcnt_16]; omega)) fl_X7_10 rfl rfl dX7_read_45 ?_
                    refine r_get hR (by first | decide | assumption | (simp only [gcnt_4, gcnt_1, gcnt_2, gcnt_3, gcnt_12, gcnt_13, gcnt_16]; omega)) fl_X7_124 rfl rfl dX7_read_48 ?_
                    refine r_iload2 hR dX7_read_51 ?_
                    refine r_aald hR (t0 := 3) (by first | decide | assumption | (simp only [gcnt_4, gcnt_1, gcnt_2, gcnt_3, gcnt_12, gcnt_13, gcnt_16]; omega)) rfl rfl rfl (by omega) (by decide) rfl dX7_read_52 ?_
                    refine r_cv1u hR kv_X7_181 (by decide) (t_X5_become (by decide) (by omega)) (by first | decide | assumption | (simp only [gcnt_4, gcnt_1, gcnt_2, gcnt_3, gcnt_12, gcnt_13, gcnt_16]; omega)) rfl rfl (Nat.le_of_ble_eq_true rfl) dX7_read_53 ?_
                    rw [hX.1 4 (8 * 0 + t) (by unfold scr; omega), k0, k1, k2, k3]
                    refine r_aload0 hR dX7_read_56 ?_
                    refine r_get hR (by first | decide | assumption | (simp only [gcnt_4, gcnt_1, gcnt_2, gcnt_3, gcnt_12, gcnt_13, gcnt_16]; omega)) fl_X7_29 rfl rfl dX7_read_57 ?_
                    refine r_iload5 hR dX7_read_60 ?_
                    refine r_puti hR (by first | decide | assumption | (simp only [gcnt_4, gcnt_1, gcnt_2, gcnt_3, gcnt_12, gcnt_13, gcnt_16]; omega)) fp_X7_131 rfl rfl (Nat.le_of_ble_eq_true rfl) rfl rfl dX7_read_62 ?_
                    refine r_aload0 hR dX7_read_65 ?_
                    refine r_get hR (by first | decide | assumption | (simp only [gcnt_4, gcnt_1, gcnt_2, gcnt_3, gcnt_12, gcnt_13, gcnt_16]; omega)) fl_X7_29 rfl rfl dX7_read_66 ?_
                    refine r_iload6 hR dX7_read_69 ?_
                    refine r_puti hR (by first | decide | assumption | (simp only [gcnt_4, gcnt_1, gcnt_2, gcnt_3, gcnt_12, gcnt_13, gcnt_16]; omega)) fp_X7_137 rfl rfl (Nat.le_of_ble_eq_true rfl) rfl rfl dX7_read_71 ?_
                    refine r_aload0 hR dX7_read_74 ?_
                    refine r_aload0 hR dX7_read_75 ?_
                    refine r_get hR (by first | decide | assumption | (simp only [gcnt_4, gcnt_1, gcnt_2, gcnt_3, gcnt_12, gcnt_13, gcnt_16]; omega)) fl_X7_68 rfl rfl dX7_read_76 ?_
                    refine r_iload1 hR dX7_read_79 ?_
                    refine r_aald hR (t0 := 2) (by first | decide | assumption | (simp only [gcnt_4, gcnt_1, gcnt_2, gcnt_3, gcnt_12, gcnt_13, gcnt_16]; omega)) rfl rfl rfl (by omega) (by decide) rfl dX7_read_80 ?_
                    refine r_mem (M2 := (putTh N 24 k (thg (aS A) t 1) w (thg (aS A) t 3))) (putTh_kf N 24 (thg (aS A) t 0) (thg (aS A) t 1) (thg (aS A) t 2) (thg (aS A) t 3) k w) ?_
                    have hXw : eqX M (putTh N 24 k (thg (aS A) t 1) w (thg (aS A) t 3)) := hX.tr (eqX_putTh N (by decide))
                    have hk8 : (8 * k + w) / 8 = k := by omega
                    have hw8 : (8 * k + w) % 8 = w := by omega
                    refine g_callV hR (As := [.ref (ad G 12 s)]) (st := []) kv_X7_264 (by decide) rfl (t_X7_walkerMakes (S := kfS (aS A) t (8 * k + w)) (t := t) (clsP_eqX hXw w3 hK8 hc) hw (by omega) (fun x hx => kfS_lo hx) (wf_kfS hwf htt (by omega)) (by rw [kfS_lo (by omega)]; exact htt) (by rw [kfS_k, hk8]; simp [putTh_r]) (by rw [kfS_c]; simp [putTh_r]) (by rw [kfS_f, hw8]; simp [putTh_r]) (by rw [kfS_s]; simp [putTh_r])) (fun s0 H locs q1 q2 q3 => g_recv q1 q2 (by decide) rfl rfl) rfl (Nat.le_of_ble_eq_true rfl) dX7_read_81 (fun v M1 hq => ?_)
                    obtain ⟨rfl, hX2⟩ := hq
                    have hX3 := hXw.tr hX2
                    show P _ _ [.int (bI (isBk (kfS (aS A) t (8 * k + w)) t (an A s) (az A s) = true))] M1
                    refine r_if_eq hR 90 dX7_read_84 (by decide) (fun c84 => ?_) (fun c84 => ?_)
                    · try simp (disch := omega) only [nI_ltI, nI_leI, nI_eq, bI_0, Decidable.not_not, lc_lt, lc_gt, lc_ge, lc_le, lc_eq, i64_toInt] at c84
                      try simp (disch := omega) only [cv_lt, cv_le, cv_eq, nI_toInt, cv_0] at c84
                      first
                      | omega
                      | refine r_iinc6 hR (nI 1) (by decide) (fun _ h => by first | (cases h; rfl) | exact absurd h (by simp)) dX7_read_90 ?_
                        try rw [nI_add]
                        refine r_goto hR 33 dX7_read_93 (by decide) ?_
                        first
                        | (have er : (rdN (aS A) t (an A s) (az A s) (8 * k + (w + 1))) = (rdN (aS A) t (an A s) (az A s) (8 * k + w)) + 1 := by rw [show 8 * k + (w + 1) = (8 * k + w) + 1 from rfl, rdN_s, if_pos c84]
                           have := ih2 (w + 1) M1 (by omega) hX3
                           rw [er] at this
                           exact this)
                        | (have er : (rdN (aS A) t (an A s) (az A s) (8 * k + (w + 1))) = (rdN (aS A) t (an A s) (az A s) (8 * k + w)) := by rw [show 8 * k + (w + 1) = (8 * k + w) + 1 from rfl, rdN_s, if_neg c84, Nat.add_zero]
                           have := ih2 (w + 1) M1 (by omega) hX3
                           rw [er] at this
                           exact this)
                    · try simp (disch := omega) only [nI_ltI, nI_leI, nI_eq, bI_0, Decidable.not_not, lc_lt, lc_gt, lc_ge, lc_le, lc_eq, i64_toInt] at c84
                      try simp (disch := omega) only [cv_lt, cv_le, cv_eq, nI_toInt, cv_0] at c84
                      first
                      | omega
                      | refine r_iinc4 hR (nI 1) (by decide) (fun _ h => by first | (cases h; rfl) | exact absurd h (by simp)) dX7_read_87 ?_
                        try rw [nI_add]
                        refine r_iinc6 hR (nI 1) (by decide) (fun _ h => by first | (cases h; rfl) | exact absurd h (by simp)) dX7_read_90 ?_
                        try rw [nI_add]
                        refine r_goto hR 33 dX7_read_93 (by decide) ?_
                        first
                        | (have er : (rdN (aS A) t (an A s) (az A s) (8 * k + (w + 1))) = (rdN (aS A) t (an A s) (az A s) (8 * k + w)) + 1 := by rw [show 8 * k + (w + 1) = (8 * k + w) + 1 from rfl, rdN_s, if_pos c84]
                           have := ih2 (w + 1) M1 (by omega) hX3
                           rw [er] at this
                           exact this)
                        | (have er : (rdN (aS A) t (an A s) (az A s) (8 * k + (w + 1))) = (rdN (aS A) t (an A s) (az A s) (8 * k + w)) := by rw [show 8 * k + (w + 1) = (8 * k + w) + 1 from rfl, rdN_s, if_neg c84, Nat.add_zero]
                           have := ih2 (w + 1) M1 (by omega) hX3
                           rw [er] at this
                           exact this)
            refine r_iload5 hR dX7_read_23 ?_
            refine r_bipush hR (nI 6) (by decide) dX7_read_25 ?_
            refine r_icmp_ge hR 102 dX7_read_27 (by decide) (fun c27 => ?_) (fun c27 => ?_)
            · try simp (disch := omega) only [nI_ltI, nI_leI, nI_eq, bI_0, Decidable.not_not, lc_lt, lc_gt, lc_ge, lc_le, lc_eq, i64_toInt] at c27
              try simp (disch := omega) only [cv_lt, cv_le, cv_eq, nI_toInt, cv_0] at c27
              first
              | omega
              | refine r_iload4 hR dX7_read_102 ?_
                refine r_iret hR dX7_read_104 ?_
                obtain rfl : k = 6 := by omega
                exact Qc_eqX (A := A) hX w3 hK8 hc e
            · try simp (disch := omega) only [nI_ltI, nI_leI, nI_eq, bI_0, Decidable.not_not, lc_lt, lc_gt, lc_ge, lc_le, lc_eq, i64_toInt] at c27
              try simp (disch := omega) only [cv_lt, cv_le, cv_eq, nI_toInt, cv_0] at c27
              first
              | omega
              | refine r_iconst hR (nI 0) (by decide) dX7_read_30 ?_
                refine r_istore6 hR (fun _ h => by first | (cases h; rfl) | exact absurd h (by simp)) dX7_read_31 ?_
                exact L2 8 0 N (by omega) hX
        refine r_aload0 hR dX7_read_0 ?_
        refine r_iload1 hR dX7_read_1 ?_
        refine r_iload2 hR dX7_read_2 ?_
        refine r_cv2v hR kv_X7_261 (by decide) (t_X7_sheetFinding hc hw) (by first | decide | assumption | (simp only [gcnt_4, gcnt_1, gcnt_2, gcnt_3, gcnt_12, gcnt_13, gcnt_16]; omega)) rfl rfl (Nat.le_of_ble_eq_true rfl) dX7_read_3 ?_
        rw [hs]
        refine r_istore3 hR (fun _ h => by first | (cases h; rfl) | exact absurd h (by simp)) dX7_read_6 ?_
        refine r_iload3 hR dX7_read_7 ?_
        refine r_if_eq hR 17 dX7_read_8 (by decide) (fun c8 => ?_) (fun c8 => absurd rfl c8)
        refine r_iconst hR (nI 0) (by decide) dX7_read_17 ?_
        refine r_istore4 hR (fun _ h => by first | (cases h; rfl) | exact absurd h (by simp)) dX7_read_18 ?_
        refine r_iconst hR (nI 0) (by decide) dX7_read_20 ?_
        refine r_istore5 hR (fun _ h => by first | (cases h; rfl) | exact absurd h (by simp)) dX7_read_21 ?_
        exact L1 6 0 M _ rfl (eqX.rf M)
      · have hs : shF A x y = -1000000001 := by unfold shF; rw [if_pos h1, if_neg h2, if_neg h3]
        refine r_aload0 hR dX7_read_0 ?_
        refine r_iload1 hR dX7_read_1 ?_
        refine r_iload2 hR dX7_read_2 ?_
        refine r_cv2v hR kv_X7_261 (by decide) (t_X7_sheetFinding hc hw) (by first | decide | assumption | (simp only [gcnt_4, gcnt_1, gcnt_2, gcnt_3, gcnt_12, gcnt_13, gcnt_16]; omega)) rfl rfl (Nat.le_of_ble_eq_true rfl) dX7_read_3 ?_
        rw [hs]
        refine r_istore3 hR (fun _ h => by first | (cases h; rfl) | exact absurd h (by simp)) dX7_read_6 ?_
        refine r_iload3 hR dX7_read_7 ?_
        refine r_if_eq hR 17 dX7_read_8 (by decide) (fun c8 => absurd c8 (by decide)) (fun c8 => ?_)
        refine r_aload0 hR dX7_read_11 ?_
        refine r_iload3 hR dX7_read_12 ?_
        refine r_cv1v hR kv_X7_82 (by decide) (t_X7_findingC (n := 0) (by decide) (by decide)) (by first | decide | assumption | (simp only [gcnt_4, gcnt_1, gcnt_2, gcnt_3, gcnt_12, gcnt_13, gcnt_16]; omega)) rfl rfl (Nat.le_of_ble_eq_true rfl) dX7_read_13 ?_
        refine r_iret hR dX7_read_16 ?_
        refine Qc_fnd hc (by decide) ?_
        unfold oRead
        rw [if_pos h1, if_neg h2, if_neg h3]
  · have hs : shF A x y = -1000000001 := by unfold shF; rw [if_neg h1]
    refine r_aload0 hR dX7_read_0 ?_
    refine r_iload1 hR dX7_read_1 ?_
    refine r_iload2 hR dX7_read_2 ?_
    refine r_cv2v hR kv_X7_261 (by decide) (t_X7_sheetFinding hc hw) (by first | decide | assumption | (simp only [gcnt_4, gcnt_1, gcnt_2, gcnt_3, gcnt_12, gcnt_13, gcnt_16]; omega)) rfl rfl (Nat.le_of_ble_eq_true rfl) dX7_read_3 ?_
    rw [hs]
    refine r_istore3 hR (fun _ h => by first | (cases h; rfl) | exact absurd h (by simp)) dX7_read_6 ?_
    refine r_iload3 hR dX7_read_7 ?_
    refine r_if_eq hR 17 dX7_read_8 (by decide) (fun c8 => absurd c8 (by decide)) (fun c8 => ?_)
    refine r_aload0 hR dX7_read_11 ?_
    refine r_iload3 hR dX7_read_12 ?_
    refine r_cv1v hR kv_X7_82 (by decide) (t_X7_findingC (n := 0) (by decide) (by decide)) (by first | decide | assumption | (simp only [gcnt_4, gcnt_1, gcnt_2, gcnt_3, gcnt_12, gcnt_13, gcnt_16]; omega)) rfl rfl (Nat.le_of_ble_eq_true rfl) dX7_read_13 ?_
    refine r_iret hR dX7_read_16 ?_
    refine Qc_fnd hc (by decide) ?_
    unfold oRead
    rw [if_neg h1]

