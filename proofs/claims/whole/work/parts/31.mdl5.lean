set_option maxHeartbeats 4000000 in
set_option maxRecDepth 100000 in
theorem t_X8_swap {G : gG} {M : gM} {A : gA} {x : Int32} (hc : mdlP M A) (hw : wfA A) : Ct G mX8_swap 7 [.ref (ad G 15 0), .int x] M (Qm M (oSwap A x)) := by
  obtain ⟨hwf, hday, hwk, hk2, hl, hT, hsh⟩ := id hw
  obtain ⟨w0, w1, w2, w3, wr, wt⟩ := id hwf
  obtain ⟨h, hKp, hkk, hlp, htp, hshp, hfp⟩ := id hc
  refine Ct.of (by decide +kernel) (k := 5) (ls0 := [some (.ref (ad G 15 0)), some (.int x), none, none, none, none, none]) rfl rfl (fun _ _ => trivial) ?_
  intro P hR
  refine r_iload1 hR dX8_swap_0 ?_
  refine r_i2l hR dX8_swap_1 ?_
  refine r_iconst hR (nI 1) (by decide) dX8_swap_2 ?_
  refine r_bipush hR (nI 30) (by decide) dX8_swap_3 ?_
  refine r_cs3v hR ks_X8_47 (by decide) (t_X8_in) (Nat.le_of_ble_eq_true rfl) dX8_swap_5 ?_
  refine r_if_ne hR 18 dX8_swap_8 (by decide) (fun c8 => ?_) (fun c8 => ?_)
  · try simp (disch := omega) only [nI_ltI, nI_leI, nI_eq, bI_0, Decidable.not_not, lc_lt, lc_gt, lc_ge, lc_le, lc_eq, i64_toInt] at c8
    try simp (disch := omega) only [cv_lt, cv_le, cv_eq, nI_toInt, cv_0] at c8
    first
    | omega
    | obtain ⟨n, hn, rfl⟩ := of_in (x := x) (N := 30) (by omega)
      simp (disch := omega) only [nI_toInt] at c8
      have e : oSwap A (nI n) = if (swpA (aS A) n 7).1 = -1 then fnd A 3 else ((swpA (aS A) n 7).1, A) := by
        unfold oSwap
        rw [if_pos (by simp (disch := omega) only [okI, okT, nI_toInt]; omega)]
        simp (disch := omega) only [uN_nI]
      have L1 : ∀ (j a : Nat) (x5 x6 : Option Value), a + j = 7 → P 33 [some (.ref (ad G 15 0)), some (.int (nI n)), some (.int (nI (swpA (aS A) n a).2)), some (.int (swpA (aS A) n a).1), some (.int (nI a)), x5, x6] [] (thM M) := by
        intro j
        induction j with
        | zero =>
          intro a x5 x6 hij
          refine r_iload4 hR dX8_swap_33 ?_
          refine r_bipush hR (nI 7) (by decide) dX8_swap_35 ?_
          refine r_icmp_ge hR 140 dX8_swap_37 (by decide) (fun c37 => ?_) (fun c37 => ?_)
          · try simp (disch := omega) only [nI_ltI, nI_leI, nI_eq, bI_0, Decidable.not_not, lc_lt, lc_gt, lc_ge, lc_le, lc_eq, i64_toInt] at c37
            try simp (disch := omega) only [cv_lt, cv_le, cv_eq, nI_toInt, cv_0] at c37
            first
            | omega
            | refine r_aload0 hR dX8_swap_140 ?_
              refine r_iload3 hR dX8_swap_141 ?_
              refine r_cv1v hR kv_X8_72 (by decide) (t_X8_orNone) (by first | decide | assumption | (simp only [gcnt_4, gcnt_1, gcnt_2, gcnt_3, gcnt_12, gcnt_13, gcnt_16]; omega)) rfl rfl (Nat.le_of_ble_eq_true rfl) dX8_swap_142 ?_
              refine r_iret hR dX8_swap_145 ?_
              first
              | omega
              | (obtain rfl : a = 7 := by omega
                 exact Qm_or (eqY_th M) hc (okB_swpA 7 (by omega)) e)
          · try simp (disch := omega) only [nI_ltI, nI_leI, nI_eq, bI_0, Decidable.not_not, lc_lt, lc_gt, lc_ge, lc_le, lc_eq, i64_toInt] at c37
            try simp (disch := omega) only [cv_lt, cv_le, cv_eq, nI_toInt, cv_0] at c37
            first
            | omega
            | refine r_iload4 hR dX8_swap_40 ?_
              refine r_iconst hR (nI 1) (by decide) dX8_swap_42 ?_
              refine r_iadd hR dX8_swap_43 ?_
              try rw [nI_add]
              refine r_istore5 hR (fun _ h => by first | (cases h; rfl) | exact absurd h (by simp)) dX8_swap_44 ?_
              omega
        | succ j ih =>
          intro a x5 x6 hij
          have L2 : ∀ (j2 k : Nat) (x6 : Option Value), k + j2 = 6 - a → P 46 [some (.ref (ad G 15 0)), some (.int (nI n)), some (.int (nI (swpB (aS A) n a (swpA (aS A) n a) k).2)), some (.int (swpB (aS A) n a (swpA (aS A) n a) k).1), some (.int (nI a)), some (.int (nI (a + 1 + k))), x6] [] (thM M) := by
            intro j2
            induction j2 with
            | zero =>
              intro k x6 hk2
              have z0 : k < 6 - a → (swpS (aS A) a (a + 1 + k)) 0 = aS A 0 := fun _ => by unfold swpS; rw [if_neg (by omega), if_neg (by omega)]
              have hwS : k < 6 - a → wfS (swpS (aS A) a (a + 1 + k)) := fun z => wf_swp hwf (by omega) (by omega) (by omega)
              have hgl : k < 6 - a → gainN n (swpS (aS A) a (a + 1 + k)) ≤ 99999 * 8 := fun z => gain_le (hwS z) (by have := z0 z; omega)
              have hsl := swpB_lt hwf (show aS A 0 + n < 20000 by omega) (show a < 7 by omega) (swpA_lt hwf (show aS A 0 + n < 20000 by omega) a (by omega)) k (by omega)
              refine r_iload5 hR dX8_swap_46 ?_
              refine r_bipush hR (nI 7) (by decide) dX8_swap_48 ?_
              refine r_icmp_ge hR 134 dX8_swap_50 (by decide) (fun c50 => ?_) (fun c50 => ?_)
              · try simp (disch := omega) only [nI_ltI, nI_leI, nI_eq, bI_0, Decidable.not_not, lc_lt, lc_gt, lc_ge, lc_le, lc_eq, i64_toInt] at c50
                try simp (disch := omega) only [cv_lt, cv_le, cv_eq, nI_toInt, cv_0] at c50
                first
                | omega
                | refine r_iinc4 hR (nI 1) (by decide) (fun _ h => by first | (cases h; rfl) | exact absurd h (by simp)) dX8_swap_134 ?_
                  try rw [nI_add]
                  refine r_goto hR 33 dX8_swap_137 (by decide) ?_
                  obtain rfl : k = 6 - a := by omega
                  exact ih (a + 1) _ _ (by omega)
              · try simp (disch := omega) only [nI_ltI, nI_leI, nI_eq, bI_0, Decidable.not_not, lc_lt, lc_gt, lc_ge, lc_le, lc_eq, i64_toInt] at c50
                try simp (disch := omega) only [cv_lt, cv_le, cv_eq, nI_toInt, cv_0] at c50
                first
                | omega
                | have hgg := hgl (by omega)
                  refine r_aload0 hR dX8_swap_53 ?_
                  refine r_get hR (by first | decide | assumption | (simp only [gcnt_4, gcnt_1, gcnt_2, gcnt_3, gcnt_12, gcnt_13, gcnt_16]; omega)) fl_X8_9 rfl rfl dX8_swap_54 ?_
                  refine r_iconst hR (nI 4) (by decide) dX8_swap_57 ?_
                  refine r_iload4 hR dX8_swap_58 ?_
                  refine r_iadd hR dX8_swap_60 ?_
                  try rw [nI_add]
                  refine r_aload0 hR dX8_swap_61 ?_
                  refine r_get hR (by first | decide | assumption | (simp only [gcnt_4, gcnt_1, gcnt_2, gcnt_3, gcnt_12, gcnt_13, gcnt_16]; omega)) fl_X8_16 rfl rfl dX8_swap_62 ?_
                  refine r_iconst hR (nI 4) (by decide) dX8_swap_65 ?_
                  refine r_iload5 hR dX8_swap_66 ?_
                  refine r_iadd hR dX8_swap_68 ?_
                  try rw [nI_add]
                  refine r_iald hR (by first | decide | assumption | (simp only [gcnt_4, gcnt_1, gcnt_2, gcnt_3, gcnt_12, gcnt_13, gcnt_16]; omega)) rfl rfl (by omega) (by decide) dX8_swap_69 ?_
                  rw [cpR_r, if_pos ⟨rfl, rfl, by omega⟩, h (4 + (a + 1 + k)) (by omega)]
                  refine r_iast hR (by first | decide | assumption | (simp only [gcnt_4, gcnt_1, gcnt_2, gcnt_3, gcnt_12, gcnt_13, gcnt_16]; omega)) (fun _ => rfl) rfl (by omega) (by decide) dX8_swap_70 ?_
                  refine r_aload0 hR dX8_swap_71 ?_
                  refine r_get hR (by first | decide | assumption | (simp only [gcnt_4, gcnt_1, gcnt_2, gcnt_3, gcnt_12, gcnt_13, gcnt_16]; omega)) fl_X8_9 rfl rfl dX8_swap_72 ?_
                  refine r_iconst hR (nI 4) (by decide) dX8_swap_75 ?_
                  refine r_iload5 hR dX8_swap_76 ?_
                  refine r_iadd hR dX8_swap_78 ?_
                  try rw [nI_add]
                  refine r_aload0 hR dX8_swap_79 ?_
                  refine r_get hR (by first | decide | assumption | (simp only [gcnt_4, gcnt_1, gcnt_2, gcnt_3, gcnt_12, gcnt_13, gcnt_16]; omega)) fl_X8_16 rfl rfl dX8_swap_80 ?_
                  refine r_iconst hR (nI 4) (by decide) dX8_swap_83 ?_
                  refine r_iload4 hR dX8_swap_84 ?_
                  refine r_iadd hR dX8_swap_86 ?_
                  try rw [nI_add]
                  refine r_iald hR (by first | decide | assumption | (simp only [gcnt_4, gcnt_1, gcnt_2, gcnt_3, gcnt_12, gcnt_13, gcnt_16]; omega)) rfl rfl (by omega) (by decide) dX8_swap_87 ?_
                  rw [seti_r, if_neg (by omega), cpR_r, if_pos ⟨rfl, rfl, by omega⟩, h (4 + a) (by omega)]
                  refine r_iast hR (by first | decide | assumption | (simp only [gcnt_4, gcnt_1, gcnt_2, gcnt_3, gcnt_12, gcnt_13, gcnt_16]; omega)) (fun _ => rfl) rfl (by omega) (by decide) dX8_swap_88 ?_
                  refine r_aload0 hR dX8_swap_89 ?_
                  refine r_iload1 hR dX8_swap_90 ?_
                  refine r_cv1v hR kv_X8_139 (by decide) (t_X8_gainOn (row_swp h (by omega)) (hwS (by omega)) (by have := z0 (by omega); omega)) (by first | decide | assumption | (simp only [gcnt_4, gcnt_1, gcnt_2, gcnt_3, gcnt_12, gcnt_13, gcnt_16]; omega)) rfl rfl (Nat.le_of_ble_eq_true rfl) dX8_swap_91 ?_
                  rw [bk_seti _ (by omega), bk_seti _ (by omega), bk_th]
                  refine r_istore6 hR (fun _ h => by first | (cases h; rfl) | exact absurd h (by simp)) dX8_swap_94 ?_
                  refine r_iload6 hR dX8_swap_96 ?_
                  refine r_iload2 hR dX8_swap_98 ?_
                  refine r_icmp_le hR 113 dX8_swap_99 (by decide) (fun c99 => ?_) (fun c99 => ?_)
                  · try simp (disch := omega) only [nI_ltI, nI_leI, nI_eq, bI_0, Decidable.not_not, lc_lt, lc_gt, lc_ge, lc_le, lc_eq, i64_toInt] at c99
                    try simp (disch := omega) only [cv_lt, cv_le, cv_eq, nI_toInt, cv_0] at c99
                    first
                    | omega
                    | refine r_iload3 hR dX8_swap_113 ?_
                      refine r_istore3 hR (fun _ h => by first | (cases h; rfl) | exact absurd h (by simp)) dX8_swap_114 ?_
                      refine r_iload6 hR dX8_swap_115 ?_
                      refine r_iload2 hR dX8_swap_117 ?_
                      refine r_icmp_le hR 126 dX8_swap_118 (by decide) (fun c118 => ?_) (fun c118 => ?_)
                      · try simp (disch := omega) only [nI_ltI, nI_leI, nI_eq, bI_0, Decidable.not_not, lc_lt, lc_gt, lc_ge, lc_le, lc_eq, i64_toInt] at c118
                        try simp (disch := omega) only [cv_lt, cv_le, cv_eq, nI_toInt, cv_0] at c118
                        first
                        | omega
                        | refine r_iload2 hR dX8_swap_126 ?_
                          refine r_istore2 hR (fun _ h => by first | (cases h; rfl) | exact absurd h (by simp)) dX8_swap_127 ?_
                          refine r_iinc5 hR (nI 1) (by decide) (fun _ h => by first | (cases h; rfl) | exact absurd h (by simp)) dX8_swap_128 ?_
                          try rw [nI_add]
                          refine r_goto hR 46 dX8_swap_131 (by decide) ?_
                          omega
                      · try simp (disch := omega) only [nI_ltI, nI_leI, nI_eq, bI_0, Decidable.not_not, lc_lt, lc_gt, lc_ge, lc_le, lc_eq, i64_toInt] at c118
                        try simp (disch := omega) only [cv_lt, cv_le, cv_eq, nI_toInt, cv_0] at c118
                        first
                        | omega
                        | refine r_iload6 hR dX8_swap_121 ?_
                          refine r_goto hR 127 dX8_swap_123 (by decide) ?_
                          refine r_istore2 hR (fun _ h => by first | (cases h; rfl) | exact absurd h (by simp)) dX8_swap_127 ?_
                          refine r_iinc5 hR (nI 1) (by decide) (fun _ h => by first | (cases h; rfl) | exact absurd h (by simp)) dX8_swap_128 ?_
                          try rw [nI_add]
                          refine r_goto hR 46 dX8_swap_131 (by decide) ?_
                          omega
                  · try simp (disch := omega) only [nI_ltI, nI_leI, nI_eq, bI_0, Decidable.not_not, lc_lt, lc_gt, lc_ge, lc_le, lc_eq, i64_toInt] at c99
                    try simp (disch := omega) only [cv_lt, cv_le, cv_eq, nI_toInt, cv_0] at c99
                    first
                    | omega
                    | refine r_bipush hR (nI 10) (by decide) dX8_swap_102 ?_
                      refine r_iload4 hR dX8_swap_104 ?_
                      refine r_imul hR dX8_swap_106 ?_
                      try rw [pk_mul]
                      refine r_iload5 hR dX8_swap_107 ?_
                      refine r_iadd hR dX8_swap_109 ?_
                      try rw [nI_add]
                      refine r_goto hR 114 dX8_swap_110 (by decide) ?_
                      refine r_istore3 hR (fun _ h => by first | (cases h; rfl) | exact absurd h (by simp)) dX8_swap_114 ?_
                      refine r_iload6 hR dX8_swap_115 ?_
                      refine r_iload2 hR dX8_swap_117 ?_
                      refine r_icmp_le hR 126 dX8_swap_118 (by decide) (fun c118 => ?_) (fun c118 => ?_)
                      · try simp (disch := omega) only [nI_ltI, nI_leI, nI_eq, bI_0, Decidable.not_not, lc_lt, lc_gt, lc_ge, lc_le, lc_eq, i64_toInt] at c118
                        try simp (disch := omega) only [cv_lt, cv_le, cv_eq, nI_toInt, cv_0] at c118
                        first
                        | omega
                        | refine r_iload2 hR dX8_swap_126 ?_
                          refine r_istore2 hR (fun _ h => by first | (cases h; rfl) | exact absurd h (by simp)) dX8_swap_127 ?_
                          refine r_iinc5 hR (nI 1) (by decide) (fun _ h => by first | (cases h; rfl) | exact absurd h (by simp)) dX8_swap_128 ?_
                          try rw [nI_add]
                          refine r_goto hR 46 dX8_swap_131 (by decide) ?_
                          omega
                      · try simp (disch := omega) only [nI_ltI, nI_leI, nI_eq, bI_0, Decidable.not_not, lc_lt, lc_gt, lc_ge, lc_le, lc_eq, i64_toInt] at c118
                        try simp (disch := omega) only [cv_lt, cv_le, cv_eq, nI_toInt, cv_0] at c118
                        first
                        | omega
                        | refine r_iload6 hR dX8_swap_121 ?_
                          refine r_goto hR 127 dX8_swap_123 (by decide) ?_
                          refine r_istore2 hR (fun _ h => by first | (cases h; rfl) | exact absurd h (by simp)) dX8_swap_127 ?_
                          refine r_iinc5 hR (nI 1) (by decide) (fun _ h => by first | (cases h; rfl) | exact absurd h (by simp)) dX8_swap_128 ?_
                          try rw [nI_add]
                          refine r_goto hR 46 dX8_swap_131 (by decide) ?_
                          omega
            | succ j2 ih2 =>
              intro k x6 hk2
              have z0 : k < 6 - a → (swpS (aS A) a (a + 1 + k)) 0 = aS A 0 := fun _ => by unfold swpS; rw [if_neg (by omega), if_neg (by omega)]
              have hwS : k < 6 - a → wfS (swpS (aS A) a (a + 1 + k)) := fun z => wf_swp hwf (by omega) (by omega) (by omega)
              have hgl : k < 6 - a → gainN n (swpS (aS A) a (a + 1 + k)) ≤ 99999 * 8 := fun z => gain_le (hwS z) (by have := z0 z; omega)
              have hsl := swpB_lt hwf (show aS A 0 + n < 20000 by omega) (show a < 7 by omega) (swpA_lt hwf (show aS A 0 + n < 20000 by omega) a (by omega)) k (by omega)
              refine r_iload5 hR dX8_swap_46 ?_
              refine r_bipush hR (nI 7) (by decide) dX8_swap_48 ?_
              refine r_icmp_ge hR 134 dX8_swap_50 (by decide) (fun c50 => ?_) (fun c50 => ?_)
              · try simp (disch := omega) only [nI_ltI, nI_leI, nI_eq, bI_0, Decidable.not_not, lc_lt, lc_gt, lc_ge, lc_le, lc_eq, i64_toInt] at c50
                try simp (disch := omega) only [cv_lt, cv_le, cv_eq, nI_toInt, cv_0] at c50
                first
                | omega
                | refine r_iinc4 hR (nI 1) (by decide) (fun _ h => by first | (cases h; rfl) | exact absurd h (by simp)) dX8_swap_134 ?_
                  try rw [nI_add]
                  refine r_goto hR 33 dX8_swap_137 (by decide) ?_
                  omega
              · try simp (disch := omega) only [nI_ltI, nI_leI, nI_eq, bI_0, Decidable.not_not, lc_lt, lc_gt, lc_ge, lc_le, lc_eq, i64_toInt] at c50
                try simp (disch := omega) only [cv_lt, cv_le, cv_eq, nI_toInt, cv_0] at c50
                first
                | omega
                | have hgg := hgl (by omega)
                  refine r_aload0 hR dX8_swap_53 ?_
                  refine r_get hR (by first | decide | assumption | (simp only [gcnt_4, gcnt_1, gcnt_2, gcnt_3, gcnt_12, gcnt_13, gcnt_16]; omega)) fl_X8_9 rfl rfl dX8_swap_54 ?_
                  refine r_iconst hR (nI 4) (by decide) dX8_swap_57 ?_
                  refine r_iload4 hR dX8_swap_58 ?_
                  refine r_iadd hR dX8_swap_60 ?_
                  try rw [nI_add]
                  refine r_aload0 hR dX8_swap_61 ?_
                  refine r_get hR (by first | decide | assumption | (simp only [gcnt_4, gcnt_1, gcnt_2, gcnt_3, gcnt_12, gcnt_13, gcnt_16]; omega)) fl_X8_16 rfl rfl dX8_swap_62 ?_
                  refine r_iconst hR (nI 4) (by decide) dX8_swap_65 ?_
                  refine r_iload5 hR dX8_swap_66 ?_
                  refine r_iadd hR dX8_swap_68 ?_
                  try rw [nI_add]
                  refine r_iald hR (by first | decide | assumption | (simp only [gcnt_4, gcnt_1, gcnt_2, gcnt_3, gcnt_12, gcnt_13, gcnt_16]; omega)) rfl rfl (by omega) (by decide) dX8_swap_69 ?_
                  rw [cpR_r, if_pos ⟨rfl, rfl, by omega⟩, h (4 + (a + 1 + k)) (by omega)]
                  refine r_iast hR (by first | decide | assumption | (simp only [gcnt_4, gcnt_1, gcnt_2, gcnt_3, gcnt_12, gcnt_13, gcnt_16]; omega)) (fun _ => rfl) rfl (by omega) (by decide) dX8_swap_70 ?_
                  refine r_aload0 hR dX8_swap_71 ?_
                  refine r_get hR (by first | decide | assumption | (simp only [gcnt_4, gcnt_1, gcnt_2, gcnt_3, gcnt_12, gcnt_13, gcnt_16]; omega)) fl_X8_9 rfl rfl dX8_swap_72 ?_
                  refine r_iconst hR (nI 4) (by decide) dX8_swap_75 ?_
                  refine r_iload5 hR dX8_swap_76 ?_
                  refine r_iadd hR dX8_swap_78 ?_
                  try rw [nI_add]
                  refine r_aload0 hR dX8_swap_79 ?_
                  refine r_get hR (by first | decide | assumption | (simp only [gcnt_4, gcnt_1, gcnt_2, gcnt_3, gcnt_12, gcnt_13, gcnt_16]; omega)) fl_X8_16 rfl rfl dX8_swap_80 ?_
                  refine r_iconst hR (nI 4) (by decide) dX8_swap_83 ?_
                  refine r_iload4 hR dX8_swap_84 ?_
                  refine r_iadd hR dX8_swap_86 ?_
                  try rw [nI_add]
                  refine r_iald hR (by first | decide | assumption | (simp only [gcnt_4, gcnt_1, gcnt_2, gcnt_3, gcnt_12, gcnt_13, gcnt_16]; omega)) rfl rfl (by omega) (by decide) dX8_swap_87 ?_
                  rw [seti_r, if_neg (by omega), cpR_r, if_pos ⟨rfl, rfl, by omega⟩, h (4 + a) (by omega)]
                  refine r_iast hR (by first | decide | assumption | (simp only [gcnt_4, gcnt_1, gcnt_2, gcnt_3, gcnt_12, gcnt_13, gcnt_16]; omega)) (fun _ => rfl) rfl (by omega) (by decide) dX8_swap_88 ?_
                  refine r_aload0 hR dX8_swap_89 ?_
                  refine r_iload1 hR dX8_swap_90 ?_
                  refine r_cv1v hR kv_X8_139 (by decide) (t_X8_gainOn (row_swp h (by omega)) (hwS (by omega)) (by have := z0 (by omega); omega)) (by first | decide | assumption | (simp only [gcnt_4, gcnt_1, gcnt_2, gcnt_3, gcnt_12, gcnt_13, gcnt_16]; omega)) rfl rfl (Nat.le_of_ble_eq_true rfl) dX8_swap_91 ?_
                  rw [bk_seti _ (by omega), bk_seti _ (by omega), bk_th]
                  refine r_istore6 hR (fun _ h => by first | (cases h; rfl) | exact absurd h (by simp)) dX8_swap_94 ?_
                  refine r_iload6 hR dX8_swap_96 ?_
                  refine r_iload2 hR dX8_swap_98 ?_
                  refine r_icmp_le hR 113 dX8_swap_99 (by decide) (fun c99 => ?_) (fun c99 => ?_)
                  · try simp (disch := omega) only [nI_ltI, nI_leI, nI_eq, bI_0, Decidable.not_not, lc_lt, lc_gt, lc_ge, lc_le, lc_eq, i64_toInt] at c99
                    try simp (disch := omega) only [cv_lt, cv_le, cv_eq, nI_toInt, cv_0] at c99
                    first
                    | omega
                    | refine r_iload3 hR dX8_swap_113 ?_
                      refine r_istore3 hR (fun _ h => by first | (cases h; rfl) | exact absurd h (by simp)) dX8_swap_114 ?_
                      refine r_iload6 hR dX8_swap_115 ?_
                      refine r_iload2 hR dX8_swap_117 ?_
                      refine r_icmp_le hR 126 dX8_swap_118 (by decide) (fun c118 => ?_) (fun c118 => ?_)
                      · try simp (disch := omega) only [nI_ltI, nI_leI, nI_eq, bI_0, Decidable.not_not, lc_lt, lc_gt, lc_ge, lc_le, lc_eq, i64_toInt] at c118
                        try simp (disch := omega) only [cv_lt, cv_le, cv_eq, nI_toInt, cv_0] at c118
                        first
                        | omega
                        | refine r_iload2 hR dX8_swap_126 ?_
                          refine r_istore2 hR (fun _ h => by first | (cases h; rfl) | exact absurd h (by simp)) dX8_swap_127 ?_
                          refine r_iinc5 hR (nI 1) (by decide) (fun _ h => by first | (cases h; rfl) | exact absurd h (by simp)) dX8_swap_128 ?_
                          try rw [nI_add]
                          refine r_goto hR 46 dX8_swap_131 (by decide) ?_
                          have es : swpB (aS A) n a (swpA (aS A) n a) (k + 1) = upB (swpB (aS A) n a (swpA (aS A) n a) k) (10 * a + (a + 1 + k)) (gainN n (swpS (aS A) a (a + 1 + k))) := rfl
                          unfold upB at es
                          have ih3 := ih2 (k + 1) (some (.int (nI (gainN n (swpS (aS A) a (a + 1 + k)))))) (by omega)
                          first
                          | (rw [if_pos (by omega)] at es; rw [es] at ih3; exact ih3)
                          | (rw [if_neg (by omega)] at es; rw [es] at ih3; exact ih3)
                      · try simp (disch := omega) only [nI_ltI, nI_leI, nI_eq, bI_0, Decidable.not_not, lc_lt, lc_gt, lc_ge, lc_le, lc_eq, i64_toInt] at c118
                        try simp (disch := omega) only [cv_lt, cv_le, cv_eq, nI_toInt, cv_0] at c118
                        first
                        | omega
                        | refine r_iload6 hR dX8_swap_121 ?_
                          refine r_goto hR 127 dX8_swap_123 (by decide) ?_
                          refine r_istore2 hR (fun _ h => by first | (cases h; rfl) | exact absurd h (by simp)) dX8_swap_127 ?_
                          refine r_iinc5 hR (nI 1) (by decide) (fun _ h => by first | (cases h; rfl) | exact absurd h (by simp)) dX8_swap_128 ?_
                          try rw [nI_add]
                          refine r_goto hR 46 dX8_swap_131 (by decide) ?_
                          have es : swpB (aS A) n a (swpA (aS A) n a) (k + 1) = upB (swpB (aS A) n a (swpA (aS A) n a) k) (10 * a + (a + 1 + k)) (gainN n (swpS (aS A) a (a + 1 + k))) := rfl
                          unfold upB at es
                          have ih3 := ih2 (k + 1) (some (.int (nI (gainN n (swpS (aS A) a (a + 1 + k)))))) (by omega)
                          first
                          | (rw [if_pos (by omega)] at es; rw [es] at ih3; exact ih3)
                          | (rw [if_neg (by omega)] at es; rw [es] at ih3; exact ih3)
                  · try simp (disch := omega) only [nI_ltI, nI_leI, nI_eq, bI_0, Decidable.not_not, lc_lt, lc_gt, lc_ge, lc_le, lc_eq, i64_toInt] at c99
                    try simp (disch := omega) only [cv_lt, cv_le, cv_eq, nI_toInt, cv_0] at c99
                    first
                    | omega
                    | refine r_bipush hR (nI 10) (by decide) dX8_swap_102 ?_
                      refine r_iload4 hR dX8_swap_104 ?_
                      refine r_imul hR dX8_swap_106 ?_
                      try rw [pk_mul]
                      refine r_iload5 hR dX8_swap_107 ?_
                      refine r_iadd hR dX8_swap_109 ?_
                      try rw [nI_add]
                      refine r_goto hR 114 dX8_swap_110 (by decide) ?_
                      refine r_istore3 hR (fun _ h => by first | (cases h; rfl) | exact absurd h (by simp)) dX8_swap_114 ?_
                      refine r_iload6 hR dX8_swap_115 ?_
                      refine r_iload2 hR dX8_swap_117 ?_
                      refine r_icmp_le hR 126 dX8_swap_118 (by decide) (fun c118 => ?_) (fun c118 => ?_)
                      · try simp (disch := omega) only [nI_ltI, nI_leI, nI_eq, bI_0, Decidable.not_not, lc_lt, lc_gt, lc_ge, lc_le, lc_eq, i64_toInt] at c118
                        try simp (disch := omega) only [cv_lt, cv_le, cv_eq, nI_toInt, cv_0] at c118
                        first
                        | omega
                        | refine r_iload2 hR dX8_swap_126 ?_
                          refine r_istore2 hR (fun _ h => by first | (cases h; rfl) | exact absurd h (by simp)) dX8_swap_127 ?_
                          refine r_iinc5 hR (nI 1) (by decide) (fun _ h => by first | (cases h; rfl) | exact absurd h (by simp)) dX8_swap_128 ?_
                          try rw [nI_add]
                          refine r_goto hR 46 dX8_swap_131 (by decide) ?_
                          have es : swpB (aS A) n a (swpA (aS A) n a) (k + 1) = upB (swpB (aS A) n a (swpA (aS A) n a) k) (10 * a + (a + 1 + k)) (gainN n (swpS (aS A) a (a + 1 + k))) := rfl
                          unfold upB at es
                          have ih3 := ih2 (k + 1) (some (.int (nI (gainN n (swpS (aS A) a (a + 1 + k)))))) (by omega)
                          first
                          | (rw [if_pos (by omega)] at es; rw [es] at ih3; exact ih3)
                          | (rw [if_neg (by omega)] at es; rw [es] at ih3; exact ih3)
                      · try simp (disch := omega) only [nI_ltI, nI_leI, nI_eq, bI_0, Decidable.not_not, lc_lt, lc_gt, lc_ge, lc_le, lc_eq, i64_toInt] at c118
                        try simp (disch := omega) only [cv_lt, cv_le, cv_eq, nI_toInt, cv_0] at c118
                        first
                        | omega
                        | refine r_iload6 hR dX8_swap_121 ?_
                          refine r_goto hR 127 dX8_swap_123 (by decide) ?_
                          refine r_istore2 hR (fun _ h => by first | (cases h; rfl) | exact absurd h (by simp)) dX8_swap_127 ?_
                          refine r_iinc5 hR (nI 1) (by decide) (fun _ h => by first | (cases h; rfl) | exact absurd h (by simp)) dX8_swap_128 ?_
                          try rw [nI_add]
                          refine r_goto hR 46 dX8_swap_131 (by decide) ?_
                          have es : swpB (aS A) n a (swpA (aS A) n a) (k + 1) = upB (swpB (aS A) n a (swpA (aS A) n a) k) (10 * a + (a + 1 + k)) (gainN n (swpS (aS A) a (a + 1 + k))) := rfl
                          unfold upB at es
                          have ih3 := ih2 (k + 1) (some (.int (nI (gainN n (swpS (aS A) a (a + 1 + k)))))) (by omega)
                          first
                          | (rw [if_pos (by omega)] at es; rw [es] at ih3; exact ih3)
                          | (rw [if_neg (by omega)] at es; rw [es] at ih3; exact ih3)
          refine r_iload4 hR dX8_swap_33 ?_
          refine r_bipush hR (nI 7) (by decide) dX8_swap_35 ?_
          refine r_icmp_ge hR 140 dX8_swap_37 (by decide) (fun c37 => ?_) (fun c37 => ?_)
          · try simp (disch := omega) only [nI_ltI, nI_leI, nI_eq, bI_0, Decidable.not_not, lc_lt, lc_gt, lc_ge, lc_le, lc_eq, i64_toInt] at c37
            try simp (disch := omega) only [cv_lt, cv_le, cv_eq, nI_toInt, cv_0] at c37
            first
            | omega
            | refine r_aload0 hR dX8_swap_140 ?_
              refine r_iload3 hR dX8_swap_141 ?_
              refine r_cv1v hR kv_X8_72 (by decide) (t_X8_orNone) (by first | decide | assumption | (simp only [gcnt_4, gcnt_1, gcnt_2, gcnt_3, gcnt_12, gcnt_13, gcnt_16]; omega)) rfl rfl (Nat.le_of_ble_eq_true rfl) dX8_swap_142 ?_
              refine r_iret hR dX8_swap_145 ?_
              first
              | omega
              | (obtain rfl : a = 7 := by omega
                 exact Qm_or (eqY_th M) hc (okB_swpA 7 (by omega)) e)
          · try simp (disch := omega) only [nI_ltI, nI_leI, nI_eq, bI_0, Decidable.not_not, lc_lt, lc_gt, lc_ge, lc_le, lc_eq, i64_toInt] at c37
            try simp (disch := omega) only [cv_lt, cv_le, cv_eq, nI_toInt, cv_0] at c37
            first
            | omega
            | refine r_iload4 hR dX8_swap_40 ?_
              refine r_iconst hR (nI 1) (by decide) dX8_swap_42 ?_
              refine r_iadd hR dX8_swap_43 ?_
              try rw [nI_add]
              refine r_istore5 hR (fun _ h => by first | (cases h; rfl) | exact absurd h (by simp)) dX8_swap_44 ?_
              exact L2 (6 - a) 0 _ (by omega)
      refine r_aload0 hR dX8_swap_18 ?_
      refine r_cv0u hR kv_X8_124 (by decide) (t_X8_thinks) (by first | decide | assumption | (simp only [gcnt_4, gcnt_1, gcnt_2, gcnt_3, gcnt_12, gcnt_13, gcnt_16]; omega)) rfl rfl (Nat.le_of_ble_eq_true rfl) dX8_swap_19 ?_
      refine r_aload0 hR dX8_swap_22 ?_
      refine r_iload1 hR dX8_swap_23 ?_
      refine r_cv1v hR kv_X8_139 (by decide) (t_X8_gainOn (row_th h) hwf (by omega)) (by first | decide | assumption | (simp only [gcnt_4, gcnt_1, gcnt_2, gcnt_3, gcnt_12, gcnt_13, gcnt_16]; omega)) rfl rfl (Nat.le_of_ble_eq_true rfl) dX8_swap_24 ?_
      rw [bk_th]
      refine r_istore2 hR (fun _ h => by first | (cases h; rfl) | exact absurd h (by simp)) dX8_swap_27 ?_
      refine r_iconst hR (-1) (by decide) dX8_swap_28 ?_
      refine r_istore3 hR (fun _ h => by first | (cases h; rfl) | exact absurd h (by simp)) dX8_swap_29 ?_
      refine r_iconst hR (nI 0) (by decide) dX8_swap_30 ?_
      refine r_istore4 hR (fun _ h => by first | (cases h; rfl) | exact absurd h (by simp)) dX8_swap_31 ?_
      exact L1 7 0 _ _ rfl
  · try simp (disch := omega) only [nI_ltI, nI_leI, nI_eq, bI_0, Decidable.not_not, lc_lt, lc_gt, lc_ge, lc_le, lc_eq, i64_toInt] at c8
    try simp (disch := omega) only [cv_lt, cv_le, cv_eq, nI_toInt, cv_0] at c8
    first
    | omega
    | refine r_aload0 hR dX8_swap_11 ?_
      refine r_ldc hR ct_X8_41 dX8_swap_12 ?_
      refine r_cv1v hR kv_X8_43 (by decide) (t_X8_findsC (n := 0) (by decide) (by decide)) (by first | decide | assumption | (simp only [gcnt_4, gcnt_1, gcnt_2, gcnt_3, gcnt_12, gcnt_13, gcnt_16]; omega)) rfl rfl (Nat.le_of_ble_eq_true rfl) dX8_swap_14 ?_
      refine r_iret hR dX8_swap_17 ?_
      refine Qm_fnd hc (by decide) ?_
      unfold oSwap
      dsimp only [okI, okT]
      (repeat' split) <;> first | rfl | omega

set_option maxHeartbeats 4000000 in
set_option maxRecDepth 100000 in
theorem t_X8_missed {G : gG} {M : gM} {A : gA} {x : Int32} (hc : mdlP M A) (hw : wfA A) : Ct G mX8_missed 7 [.ref (ad G 15 0), .int x] M (Qm M (oMissed A x)) := by
  obtain ⟨hwf, hday, hwk, hk2, hl, hT, hsh⟩ := id hw
  obtain ⟨w0, w1, w2, w3, wr, wt⟩ := id hwf
  obtain ⟨h, hKp, hkk, hlp, htp, hshp, hfp⟩ := id hc
  refine Ct.of (by decide +kernel) (k := 5) (ls0 := [some (.ref (ad G 15 0)), some (.int x), none, none, none, none, none]) rfl rfl (fun _ _ => trivial) ?_
  intro P hR
  refine r_iload1 hR dX8_missed_0 ?_
  refine r_i2l hR dX8_missed_1 ?_
  refine r_iconst hR (nI 1) (by decide) dX8_missed_2 ?_
  refine r_bipush hR (nI 30) (by decide) dX8_missed_3 ?_
  refine r_cs3v hR ks_X8_47 (by decide) (t_X8_in) (Nat.le_of_ble_eq_true rfl) dX8_missed_5 ?_
  refine r_if_ne hR 18 dX8_missed_8 (by decide) (fun c8 => ?_) (fun c8 => ?_)
  · try simp (disch := omega) only [nI_ltI, nI_leI, nI_eq, bI_0, Decidable.not_not, lc_lt, lc_gt, lc_ge, lc_le, lc_eq, i64_toInt] at c8
    try simp (disch := omega) only [cv_lt, cv_le, cv_eq, nI_toInt, cv_0] at c8
    first
    | omega
    | obtain ⟨n, hn, rfl⟩ := of_in (x := x) (N := 30) (by omega)
      simp (disch := omega) only [nI_toInt] at c8
      have e : oMissed A (nI n) = if (misB (aS A) n 8).1 = -1 then fnd A 3 else ((misB (aS A) n 8).1, A) := by
        unfold oMissed
        rw [if_pos (by simp (disch := omega) only [okI, okT, nI_toInt]; omega)]
        simp (disch := omega) only [uN_nI]
      have L : ∀ (j i : Nat) (x5 x6 : Option Value), i + j = 8 → P 29 [some (.ref (ad G 15 0)), some (.int (nI n)), some (.int (nI (misB (aS A) n i).2)), some (.int (misB (aS A) n i).1), some (.int (nI i)), x5, x6] [] (thM M) := by
        intro j
        induction j with
        | zero =>
          intro i x5 x6 hij 
          have hmk : i < 8 → mkS (aS A 2) i 1 < 256 := fun z => (sick_t (aS A 2) w2 i z).2.2.2.2
          have hwS : i < 8 → wfS (va_up (aS A) 2 (mkS (aS A 2) i 1)) := fun z => wf_sick hwf (hmk z)
          have hgl : i < 8 → gainN n (va_up (aS A) 2 (mkS (aS A 2) i 1)) ≤ 99999 * 8 := fun z => gain_le (hwS z) (by show aS A 0 + n < 20000; omega)
          have hml := mis_lt hwf (show aS A 0 + n < 20000 by omega) i (by omega)
          have hob := okB_lt (okB_mis (S := aS A) (n := n) i (by omega))
          refine r_iload4 hR dX8_missed_29 ?_
          refine r_bipush hR (nI 8) (by decide) dX8_missed_31 ?_
          refine r_icmp_ge hR 111 dX8_missed_33 (by decide) (fun c33 => ?_) (fun c33 => ?_)
          · try simp (disch := omega) only [nI_ltI, nI_leI, nI_eq, bI_0, Decidable.not_not, lc_lt, lc_gt, lc_ge, lc_le, lc_eq, i64_toInt] at c33
            try simp (disch := omega) only [cv_lt, cv_le, cv_eq, nI_toInt, cv_0] at c33
            first
            | omega
            | refine r_aload0 hR dX8_missed_111 ?_
              refine r_iload3 hR dX8_missed_112 ?_
              refine r_cv1v hR kv_X8_72 (by decide) (t_X8_orNone) (by first | decide | assumption | (simp only [gcnt_4, gcnt_1, gcnt_2, gcnt_3, gcnt_12, gcnt_13, gcnt_16]; omega)) rfl rfl (Nat.le_of_ble_eq_true rfl) dX8_missed_113 ?_
              refine r_iret hR dX8_missed_116 ?_
              first
              | omega
              | (obtain rfl : i = 8 := by omega
                 exact Qm_or (eqY_th M) hc (okB_mis 8 (by omega)) e)
          · try simp (disch := omega) only [nI_ltI, nI_leI, nI_eq, bI_0, Decidable.not_not, lc_lt, lc_gt, lc_ge, lc_le, lc_eq, i64_toInt] at c33
            try simp (disch := omega) only [cv_lt, cv_le, cv_eq, nI_toInt, cv_0] at c33
            first
            | omega
            | refine r_aload0 hR dX8_missed_36 ?_
              refine r_get hR (by first | decide | assumption | (simp only [gcnt_4, gcnt_1, gcnt_2, gcnt_3, gcnt_12, gcnt_13, gcnt_16]; omega)) fl_X8_16 rfl rfl dX8_missed_37 ?_
              refine r_iconst hR (nI 2) (by decide) dX8_missed_40 ?_
              refine r_iald hR (by first | decide | assumption | (simp only [gcnt_4, gcnt_1, gcnt_2, gcnt_3, gcnt_12, gcnt_13, gcnt_16]; omega)) rfl rfl (by omega) (by decide) dX8_missed_41 ?_
              rw [cpR_r, if_pos ⟨rfl, rfl, by omega⟩, h 2 (by omega)]
              refine r_iload4 hR dX8_missed_42 ?_
              refine r_ishr hR dX8_missed_44 ?_
              refine r_iconst hR (nI 1) (by decide) dX8_missed_45 ?_
              refine r_iand hR dX8_missed_46 ?_
              refine r_nm _ (sick_t (aS A 2) w2 i (by omega)).1 ?_
              have hbb : (if (aS A 2).testBit i = true then 1 else 0) < 2 := by split <;> omega
              refine r_if_ne hR 105 dX8_missed_47 (by decide) (fun c47 => ?_) (fun c47 => ?_)
              · try simp (disch := omega) only [nI_ltI, nI_leI, nI_eq, bI_0, Decidable.not_not, lc_lt, lc_gt, lc_ge, lc_le, lc_eq, i64_toInt] at c47
                try simp (disch := omega) only [cv_lt, cv_le, cv_eq, nI_toInt, cv_0] at c47
                first
                | omega
                | have htb : (aS A 2).testBit i = true := by
                    by_cases q : (aS A 2).testBit i = true
                    · exact q
                    · rw [if_neg q] at c47; omega
                  refine r_iinc4 hR (nI 1) (by decide) (fun _ h => by first | (cases h; rfl) | exact absurd h (by simp)) dX8_missed_105 ?_
                  try rw [nI_add]
                  refine r_goto hR 29 dX8_missed_108 (by decide) ?_
                  omega
              · try simp (disch := omega) only [nI_ltI, nI_leI, nI_eq, bI_0, Decidable.not_not, lc_lt, lc_gt, lc_ge, lc_le, lc_eq, i64_toInt] at c47
                try simp (disch := omega) only [cv_lt, cv_le, cv_eq, nI_toInt, cv_0] at c47
                first
                | omega
                | have htb : ¬ (aS A 2).testBit i = true := by
                    intro q
                    rw [if_pos q] at c47
                    omega
                  refine r_aload0 hR dX8_missed_50 ?_
                  refine r_iload4 hR dX8_missed_51 ?_
                  refine r_iconst hR (nI 1) (by decide) dX8_missed_53 ?_
                  refine r_cv2u hR kv_X8_59 (by decide) (t_X8_ails (row_th h) w2 (by omega) (by decide)) (by first | decide | assumption | (simp only [gcnt_4, gcnt_1, gcnt_2, gcnt_3, gcnt_12, gcnt_13, gcnt_16]; omega)) rfl rfl (Nat.le_of_ble_eq_true rfl) dX8_missed_54 ?_
                  refine r_aload0 hR dX8_missed_57 ?_
                  refine r_iload1 hR dX8_missed_58 ?_
                  refine r_cv1v hR kv_X8_139 (by decide) (t_X8_gainOn (rowP_up (row_th h) (by omega)) (hwS (by omega)) (by show aS A 0 + n < 20000; omega)) (by first | decide | assumption | (simp only [gcnt_4, gcnt_1, gcnt_2, gcnt_3, gcnt_12, gcnt_13, gcnt_16]; omega)) rfl rfl (Nat.le_of_ble_eq_true rfl) dX8_missed_59 ?_
                  rw [bk_seti _ (by omega), bk_th]
                  have hgg := hgl (by omega)
                  refine r_istore5 hR (fun _ h => by first | (cases h; rfl) | exact absurd h (by simp)) dX8_missed_62 ?_
                  refine r_iload3 hR dX8_missed_64 ?_
                  refine r_if_lt hR 74 dX8_missed_65 (by decide) (fun c65 => ?_) (fun c65 => ?_)
                  · try simp (disch := omega) only [nI_ltI, nI_leI, nI_eq, bI_0, Decidable.not_not, lc_lt, lc_gt, lc_ge, lc_le, lc_eq, i64_toInt] at c65
                    try simp (disch := omega) only [cv_lt, cv_le, cv_eq, nI_toInt, cv_0] at c65
                    first
                    | omega
                    | refine r_iconst hR (nI 1) (by decide) dX8_missed_74 ?_
                      refine r_goto hR 79 dX8_missed_75 (by decide) ?_
                      omega
                  · try simp (disch := omega) only [nI_ltI, nI_leI, nI_eq, bI_0, Decidable.not_not, lc_lt, lc_gt, lc_ge, lc_le, lc_eq, i64_toInt] at c65
                    try simp (disch := omega) only [cv_lt, cv_le, cv_eq, nI_toInt, cv_0] at c65
                    first
                    | omega
                    | refine r_iload5 hR dX8_missed_68 ?_
                      refine r_iload2 hR dX8_missed_70 ?_
                      refine r_icmp_ge hR 78 dX8_missed_71 (by decide) (fun c71 => ?_) (fun c71 => ?_)
                      · try simp (disch := omega) only [nI_ltI, nI_leI, nI_eq, bI_0, Decidable.not_not, lc_lt, lc_gt, lc_ge, lc_le, lc_eq, i64_toInt] at c71
                        try simp (disch := omega) only [cv_lt, cv_le, cv_eq, nI_toInt, cv_0] at c71
                        first
                        | omega
                        | refine r_iconst hR (nI 0) (by decide) dX8_missed_78 ?_
                          omega
                      · try simp (disch := omega) only [nI_ltI, nI_leI, nI_eq, bI_0, Decidable.not_not, lc_lt, lc_gt, lc_ge, lc_le, lc_eq, i64_toInt] at c71
                        try simp (disch := omega) only [cv_lt, cv_le, cv_eq, nI_toInt, cv_0] at c71
                        first
                        | omega
                        | refine r_iconst hR (nI 1) (by decide) dX8_missed_74 ?_
                          refine r_goto hR 79 dX8_missed_75 (by decide) ?_
                          omega
        | succ j ih =>
          intro i x5 x6 hij 
          have hmk : i < 8 → mkS (aS A 2) i 1 < 256 := fun z => (sick_t (aS A 2) w2 i z).2.2.2.2
          have hwS : i < 8 → wfS (va_up (aS A) 2 (mkS (aS A 2) i 1)) := fun z => wf_sick hwf (hmk z)
          have hgl : i < 8 → gainN n (va_up (aS A) 2 (mkS (aS A 2) i 1)) ≤ 99999 * 8 := fun z => gain_le (hwS z) (by show aS A 0 + n < 20000; omega)
          have hml := mis_lt hwf (show aS A 0 + n < 20000 by omega) i (by omega)
          have hob := okB_lt (okB_mis (S := aS A) (n := n) i (by omega))
          refine r_iload4 hR dX8_missed_29 ?_
          refine r_bipush hR (nI 8) (by decide) dX8_missed_31 ?_
          refine r_icmp_ge hR 111 dX8_missed_33 (by decide) (fun c33 => ?_) (fun c33 => ?_)
          · try simp (disch := omega) only [nI_ltI, nI_leI, nI_eq, bI_0, Decidable.not_not, lc_lt, lc_gt, lc_ge, lc_le, lc_eq, i64_toInt] at c33
            try simp (disch := omega) only [cv_lt, cv_le, cv_eq, nI_toInt, cv_0] at c33
            first
            | omega
            | refine r_aload0 hR dX8_missed_111 ?_
              refine r_iload3 hR dX8_missed_112 ?_
              refine r_cv1v hR kv_X8_72 (by decide) (t_X8_orNone) (by first | decide | assumption | (simp only [gcnt_4, gcnt_1, gcnt_2, gcnt_3, gcnt_12, gcnt_13, gcnt_16]; omega)) rfl rfl (Nat.le_of_ble_eq_true rfl) dX8_missed_113 ?_
              refine r_iret hR dX8_missed_116 ?_
              first
              | omega
              | (obtain rfl : i = 8 := by omega
                 exact Qm_or (eqY_th M) hc (okB_mis 8 (by omega)) e)
          · try simp (disch := omega) only [nI_ltI, nI_leI, nI_eq, bI_0, Decidable.not_not, lc_lt, lc_gt, lc_ge, lc_le, lc_eq, i64_toInt] at c33
            try simp (disch := omega) only [cv_lt, cv_le, cv_eq, nI_toInt, cv_0] at c33
            first
            | omega
            | refine r_aload0 hR dX8_missed_36 ?_
              refine r_get hR (by first | decide | assumption | (simp only [gcnt_4, gcnt_1, gcnt_2, gcnt_3, gcnt_12, gcnt_13, gcnt_16]; omega)) fl_X8_16 rfl rfl dX8_missed_37 ?_
              refine r_iconst hR (nI 2) (by decide) dX8_missed_40 ?_
              refine r_iald hR (by first | decide | assumption | (simp only [gcnt_4, gcnt_1, gcnt_2, gcnt_3, gcnt_12, gcnt_13, gcnt_16]; omega)) rfl rfl (by omega) (by decide) dX8_missed_41 ?_
              rw [cpR_r, if_pos ⟨rfl, rfl, by omega⟩, h 2 (by omega)]
              refine r_iload4 hR dX8_missed_42 ?_
              refine r_ishr hR dX8_missed_44 ?_
              refine r_iconst hR (nI 1) (by decide) dX8_missed_45 ?_
              refine r_iand hR dX8_missed_46 ?_
              refine r_nm _ (sick_t (aS A 2) w2 i (by omega)).1 ?_
              have hbb : (if (aS A 2).testBit i = true then 1 else 0) < 2 := by split <;> omega
              refine r_if_ne hR 105 dX8_missed_47 (by decide) (fun c47 => ?_) (fun c47 => ?_)
              · try simp (disch := omega) only [nI_ltI, nI_leI, nI_eq, bI_0, Decidable.not_not, lc_lt, lc_gt, lc_ge, lc_le, lc_eq, i64_toInt] at c47
                try simp (disch := omega) only [cv_lt, cv_le, cv_eq, nI_toInt, cv_0] at c47
                first
                | omega
                | have htb : (aS A 2).testBit i = true := by
                    by_cases q : (aS A 2).testBit i = true
                    · exact q
                    · rw [if_neg q] at c47; omega
                  refine r_iinc4 hR (nI 1) (by decide) (fun _ h => by first | (cases h; rfl) | exact absurd h (by simp)) dX8_missed_105 ?_
                  try rw [nI_add]
                  refine r_goto hR 29 dX8_missed_108 (by decide) ?_
                  have es : misB (aS A) n (i + 1) = (misB (aS A) n i) := by
                    show (if _ then _ else _) = _
                    rw [if_pos htb]
                  have ih2 := ih (i + 1) x5 x6 (by omega)
                  rw [es] at ih2
                  exact ih2
              · try simp (disch := omega) only [nI_ltI, nI_leI, nI_eq, bI_0, Decidable.not_not, lc_lt, lc_gt, lc_ge, lc_le, lc_eq, i64_toInt] at c47
                try simp (disch := omega) only [cv_lt, cv_le, cv_eq, nI_toInt, cv_0] at c47
                first
                | omega
                | have htb : ¬ (aS A 2).testBit i = true := by
                    intro q
                    rw [if_pos q] at c47
                    omega
                  refine r_aload0 hR dX8_missed_50 ?_
                  refine r_iload4 hR dX8_missed_51 ?_
                  refine r_iconst hR (nI 1) (by decide) dX8_missed_53 ?_
                  refine r_cv2u hR kv_X8_59 (by decide) (t_X8_ails (row_th h) w2 (by omega) (by decide)) (by first | decide | assumption | (simp only [gcnt_4, gcnt_1, gcnt_2, gcnt_3, gcnt_12, gcnt_13, gcnt_16]; omega)) rfl rfl (Nat.le_of_ble_eq_true rfl) dX8_missed_54 ?_
                  refine r_aload0 hR dX8_missed_57 ?_
                  refine r_iload1 hR dX8_missed_58 ?_
                  refine r_cv1v hR kv_X8_139 (by decide) (t_X8_gainOn (rowP_up (row_th h) (by omega)) (hwS (by omega)) (by show aS A 0 + n < 20000; omega)) (by first | decide | assumption | (simp only [gcnt_4, gcnt_1, gcnt_2, gcnt_3, gcnt_12, gcnt_13, gcnt_16]; omega)) rfl rfl (Nat.le_of_ble_eq_true rfl) dX8_missed_59 ?_
                  rw [bk_seti _ (by omega), bk_th]
                  have hgg := hgl (by omega)
                  have J79 : P 79 [some (.ref (ad G 15 0)), some (.int (nI n)), some (.int (nI (misB (aS A) n i).2)), some (.int (misB (aS A) n i).1), some (.int (nI i)), some (.int (nI (gainN n (va_up (aS A) 2 (mkS (aS A 2) i 1))))), x6] [.int (bI ((misB (aS A) n i).1.toInt < 0 ∨ gainN n (va_up (aS A) 2 (mkS (aS A 2) i 1)) < (misB (aS A) n i).2))] (thM M) := by
                    refine r_istore6 hR (fun _ h => by first | (cases h; rfl) | exact absurd h (by simp)) dX8_missed_79 ?_
                    refine r_iload6 hR dX8_missed_81 ?_
                    refine r_if_eq hR 91 dX8_missed_83 (by decide) (fun c83 => ?_) (fun c83 => ?_)
                    · try simp (disch := omega) only [nI_ltI, nI_leI, nI_eq, bI_0, Decidable.not_not, lc_lt, lc_gt, lc_ge, lc_le, lc_eq, i64_toInt] at c83
                      try simp (disch := omega) only [cv_lt, cv_le, cv_eq, nI_toInt, cv_0] at c83
                      first
                      | omega
                      | refine r_iload3 hR dX8_missed_91 ?_
                        refine r_istore3 hR (fun _ h => by first | (cases h; rfl) | exact absurd h (by simp)) dX8_missed_92 ?_
                        refine r_iload6 hR dX8_missed_93 ?_
                        refine r_if_eq hR 103 dX8_missed_95 (by decide) (fun c95 => ?_) (fun c95 => ?_)
                        · try simp (disch := omega) only [nI_ltI, nI_leI, nI_eq, bI_0, Decidable.not_not, lc_lt, lc_gt, lc_ge, lc_le, lc_eq, i64_toInt] at c95
                          try simp (disch := omega) only [cv_lt, cv_le, cv_eq, nI_toInt, cv_0] at c95
                          first
                          | omega
                          | refine r_iload2 hR dX8_missed_103 ?_
                            refine r_istore2 hR (fun _ h => by first | (cases h; rfl) | exact absurd h (by simp)) dX8_missed_104 ?_
                            refine r_iinc4 hR (nI 1) (by decide) (fun _ h => by first | (cases h; rfl) | exact absurd h (by simp)) dX8_missed_105 ?_
                            try rw [nI_add]
                            refine r_goto hR 29 dX8_missed_108 (by decide) ?_
                            have es : misB (aS A) n (i + 1) = if (misB (aS A) n i).1 = -1 ∨ gainN n (va_up (aS A) 2 (mkS (aS A 2) i 1)) < (misB (aS A) n i).2 then (nI i, gainN n (va_up (aS A) 2 (mkS (aS A 2) i 1))) else (misB (aS A) n i) := by
                              show (if _ then _ else _) = _
                              rw [if_neg htb]
                            first
                            | (have ih2 := ih (i + 1) (some (.int (nI (gainN n (va_up (aS A) 2 (mkS (aS A 2) i 1)))))) (some (.int (bI ((misB (aS A) n i).1.toInt < 0 ∨ gainN n (va_up (aS A) 2 (mkS (aS A 2) i 1)) < (misB (aS A) n i).2)))) (by omega)
                               rw [if_pos (by rw [← hob]; omega)] at es
                               rw [es] at ih2
                               exact ih2)
                            | (have ih2 := ih (i + 1) (some (.int (nI (gainN n (va_up (aS A) 2 (mkS (aS A 2) i 1)))))) (some (.int (bI ((misB (aS A) n i).1.toInt < 0 ∨ gainN n (va_up (aS A) 2 (mkS (aS A 2) i 1)) < (misB (aS A) n i).2)))) (by omega)
                               rw [if_neg (by rw [← hob]; omega)] at es
                               rw [es] at ih2
                               exact ih2)
                        · try simp (disch := omega) only [nI_ltI, nI_leI, nI_eq, bI_0, Decidable.not_not, lc_lt, lc_gt, lc_ge, lc_le, lc_eq, i64_toInt] at c95
                          try simp (disch := omega) only [cv_lt, cv_le, cv_eq, nI_toInt, cv_0] at c95
                          first
                          | omega
                          | refine r_iload5 hR dX8_missed_98 ?_
                            refine r_goto hR 104 dX8_missed_100 (by decide) ?_
                            refine r_istore2 hR (fun _ h => by first | (cases h; rfl) | exact absurd h (by simp)) dX8_missed_104 ?_
                            refine r_iinc4 hR (nI 1) (by decide) (fun _ h => by first | (cases h; rfl) | exact absurd h (by simp)) dX8_missed_105 ?_
                            try rw [nI_add]
                            refine r_goto hR 29 dX8_missed_108 (by decide) ?_
                            have es : misB (aS A) n (i + 1) = if (misB (aS A) n i).1 = -1 ∨ gainN n (va_up (aS A) 2 (mkS (aS A 2) i 1)) < (misB (aS A) n i).2 then (nI i, gainN n (va_up (aS A) 2 (mkS (aS A 2) i 1))) else (misB (aS A) n i) := by
                              show (if _ then _ else _) = _
                              rw [if_neg htb]
                            first
                            | (have ih2 := ih (i + 1) (some (.int (nI (gainN n (va_up (aS A) 2 (mkS (aS A 2) i 1)))))) (some (.int (bI ((misB (aS A) n i).1.toInt < 0 ∨ gainN n (va_up (aS A) 2 (mkS (aS A 2) i 1)) < (misB (aS A) n i).2)))) (by omega)
                               rw [if_pos (by rw [← hob]; omega)] at es
                               rw [es] at ih2
                               exact ih2)
                            | (have ih2 := ih (i + 1) (some (.int (nI (gainN n (va_up (aS A) 2 (mkS (aS A 2) i 1)))))) (some (.int (bI ((misB (aS A) n i).1.toInt < 0 ∨ gainN n (va_up (aS A) 2 (mkS (aS A 2) i 1)) < (misB (aS A) n i).2)))) (by omega)
                               rw [if_neg (by rw [← hob]; omega)] at es
                               rw [es] at ih2
                               exact ih2)
                    · try simp (disch := omega) only [nI_ltI, nI_leI, nI_eq, bI_0, Decidable.not_not, lc_lt, lc_gt, lc_ge, lc_le, lc_eq, i64_toInt] at c83
                      try simp (disch := omega) only [cv_lt, cv_le, cv_eq, nI_toInt, cv_0] at c83
                      first
                      | omega
                      | refine r_iload4 hR dX8_missed_86 ?_
                        refine r_goto hR 92 dX8_missed_88 (by decide) ?_
                        refine r_istore3 hR (fun _ h => by first | (cases h; rfl) | exact absurd h (by simp)) dX8_missed_92 ?_
                        refine r_iload6 hR dX8_missed_93 ?_
                        refine r_if_eq hR 103 dX8_missed_95 (by decide) (fun c95 => ?_) (fun c95 => ?_)
                        · try simp (disch := omega) only [nI_ltI, nI_leI, nI_eq, bI_0, Decidable.not_not, lc_lt, lc_gt, lc_ge, lc_le, lc_eq, i64_toInt] at c95
                          try simp (disch := omega) only [cv_lt, cv_le, cv_eq, nI_toInt, cv_0] at c95
                          first
                          | omega
                          | refine r_iload2 hR dX8_missed_103 ?_
                            refine r_istore2 hR (fun _ h => by first | (cases h; rfl) | exact absurd h (by simp)) dX8_missed_104 ?_
                            refine r_iinc4 hR (nI 1) (by decide) (fun _ h => by first | (cases h; rfl) | exact absurd h (by simp)) dX8_missed_105 ?_
                            try rw [nI_add]
                            refine r_goto hR 29 dX8_missed_108 (by decide) ?_
                            have es : misB (aS A) n (i + 1) = if (misB (aS A) n i).1 = -1 ∨ gainN n (va_up (aS A) 2 (mkS (aS A 2) i 1)) < (misB (aS A) n i).2 then (nI i, gainN n (va_up (aS A) 2 (mkS (aS A 2) i 1))) else (misB (aS A) n i) := by
                              show (if _ then _ else _) = _
                              rw [if_neg htb]
                            first
                            | (have ih2 := ih (i + 1) (some (.int (nI (gainN n (va_up (aS A) 2 (mkS (aS A 2) i 1)))))) (some (.int (bI ((misB (aS A) n i).1.toInt < 0 ∨ gainN n (va_up (aS A) 2 (mkS (aS A 2) i 1)) < (misB (aS A) n i).2)))) (by omega)
                               rw [if_pos (by rw [← hob]; omega)] at es
                               rw [es] at ih2
                               exact ih2)
                            | (have ih2 := ih (i + 1) (some (.int (nI (gainN n (va_up (aS A) 2 (mkS (aS A 2) i 1)))))) (some (.int (bI ((misB (aS A) n i).1.toInt < 0 ∨ gainN n (va_up (aS A) 2 (mkS (aS A 2) i 1)) < (misB (aS A) n i).2)))) (by omega)
                               rw [if_neg (by rw [← hob]; omega)] at es
                               rw [es] at ih2
                               exact ih2)
                        · try simp (disch := omega) only [nI_ltI, nI_leI, nI_eq, bI_0, Decidable.not_not, lc_lt, lc_gt, lc_ge, lc_le, lc_eq, i64_toInt] at c95
                          try simp (disch := omega) only [cv_lt, cv_le, cv_eq, nI_toInt, cv_0] at c95
                          first
                          | omega
                          | refine r_iload5 hR dX8_missed_98 ?_
                            refine r_goto hR 104 dX8_missed_100 (by decide) ?_
                            refine r_istore2 hR (fun _ h => by first | (cases h; rfl) | exact absurd h (by simp)) dX8_missed_104 ?_
                            refine r_iinc4 hR (nI 1) (by decide) (fun _ h => by first | (cases h; rfl) | exact absurd h (by simp)) dX8_missed_105 ?_
                            try rw [nI_add]
                            refine r_goto hR 29 dX8_missed_108 (by decide) ?_
                            have es : misB (aS A) n (i + 1) = if (misB (aS A) n i).1 = -1 ∨ gainN n (va_up (aS A) 2 (mkS (aS A 2) i 1)) < (misB (aS A) n i).2 then (nI i, gainN n (va_up (aS A) 2 (mkS (aS A 2) i 1))) else (misB (aS A) n i) := by
                              show (if _ then _ else _) = _
                              rw [if_neg htb]
                            first
                            | (have ih2 := ih (i + 1) (some (.int (nI (gainN n (va_up (aS A) 2 (mkS (aS A 2) i 1)))))) (some (.int (bI ((misB (aS A) n i).1.toInt < 0 ∨ gainN n (va_up (aS A) 2 (mkS (aS A 2) i 1)) < (misB (aS A) n i).2)))) (by omega)
                               rw [if_pos (by rw [← hob]; omega)] at es
                               rw [es] at ih2
                               exact ih2)
                            | (have ih2 := ih (i + 1) (some (.int (nI (gainN n (va_up (aS A) 2 (mkS (aS A 2) i 1)))))) (some (.int (bI ((misB (aS A) n i).1.toInt < 0 ∨ gainN n (va_up (aS A) 2 (mkS (aS A 2) i 1)) < (misB (aS A) n i).2)))) (by omega)
                               rw [if_neg (by rw [← hob]; omega)] at es
                               rw [es] at ih2
                               exact ih2)
                  refine r_istore5 hR (fun _ h => by first | (cases h; rfl) | exact absurd h (by simp)) dX8_missed_62 ?_
                  refine r_iload3 hR dX8_missed_64 ?_
                  refine r_if_lt hR 74 dX8_missed_65 (by decide) (fun c65 => ?_) (fun c65 => ?_)
                  · try simp (disch := omega) only [nI_ltI, nI_leI, nI_eq, bI_0, Decidable.not_not, lc_lt, lc_gt, lc_ge, lc_le, lc_eq, i64_toInt] at c65
                    try simp (disch := omega) only [cv_lt, cv_le, cv_eq, nI_toInt, cv_0] at c65
                    first
                    | omega
                    | refine r_iconst hR (nI 1) (by decide) dX8_missed_74 ?_
                      refine r_goto hR 79 dX8_missed_75 (by decide) ?_
                      refine r_nm (bI ((misB (aS A) n i).1.toInt < 0 ∨ gainN n (va_up (aS A) 2 (mkS (aS A 2) i 1)) < (misB (aS A) n i).2)) ?_ J79
                      first
                      | exact (bI_t (by omega)).symm
                      | exact (bI_f (by omega)).symm
                  · try simp (disch := omega) only [nI_ltI, nI_leI, nI_eq, bI_0, Decidable.not_not, lc_lt, lc_gt, lc_ge, lc_le, lc_eq, i64_toInt] at c65
                    try simp (disch := omega) only [cv_lt, cv_le, cv_eq, nI_toInt, cv_0] at c65
                    first
                    | omega
                    | refine r_iload5 hR dX8_missed_68 ?_
                      refine r_iload2 hR dX8_missed_70 ?_
                      refine r_icmp_ge hR 78 dX8_missed_71 (by decide) (fun c71 => ?_) (fun c71 => ?_)
                      · try simp (disch := omega) only [nI_ltI, nI_leI, nI_eq, bI_0, Decidable.not_not, lc_lt, lc_gt, lc_ge, lc_le, lc_eq, i64_toInt] at c71
                        try simp (disch := omega) only [cv_lt, cv_le, cv_eq, nI_toInt, cv_0] at c71
                        first
                        | omega
                        | refine r_iconst hR (nI 0) (by decide) dX8_missed_78 ?_
                          refine r_nm (bI ((misB (aS A) n i).1.toInt < 0 ∨ gainN n (va_up (aS A) 2 (mkS (aS A 2) i 1)) < (misB (aS A) n i).2)) ?_ J79
                          first
                          | exact (bI_t (by omega)).symm
                          | exact (bI_f (by omega)).symm
                      · try simp (disch := omega) only [nI_ltI, nI_leI, nI_eq, bI_0, Decidable.not_not, lc_lt, lc_gt, lc_ge, lc_le, lc_eq, i64_toInt] at c71
                        try simp (disch := omega) only [cv_lt, cv_le, cv_eq, nI_toInt, cv_0] at c71
                        first
                        | omega
                        | refine r_iconst hR (nI 1) (by decide) dX8_missed_74 ?_
                          refine r_goto hR 79 dX8_missed_75 (by decide) ?_
                          refine r_nm (bI ((misB (aS A) n i).1.toInt < 0 ∨ gainN n (va_up (aS A) 2 (mkS (aS A 2) i 1)) < (misB (aS A) n i).2)) ?_ J79
                          first
                          | exact (bI_t (by omega)).symm
                          | exact (bI_f (by omega)).symm
      refine r_aload0 hR dX8_missed_18 ?_
      refine r_cv0u hR kv_X8_124 (by decide) (t_X8_thinks) (by first | decide | assumption | (simp only [gcnt_4, gcnt_1, gcnt_2, gcnt_3, gcnt_12, gcnt_13, gcnt_16]; omega)) rfl rfl (Nat.le_of_ble_eq_true rfl) dX8_missed_19 ?_
      refine r_iconst hR (nI 0) (by decide) dX8_missed_22 ?_
      refine r_istore2 hR (fun _ h => by first | (cases h; rfl) | exact absurd h (by simp)) dX8_missed_23 ?_
      refine r_iconst hR (-1) (by decide) dX8_missed_24 ?_
      refine r_istore3 hR (fun _ h => by first | (cases h; rfl) | exact absurd h (by simp)) dX8_missed_25 ?_
      refine r_iconst hR (nI 0) (by decide) dX8_missed_26 ?_
      refine r_istore4 hR (fun _ h => by first | (cases h; rfl) | exact absurd h (by simp)) dX8_missed_27 ?_
      exact L 8 0 _ _ rfl
  · try simp (disch := omega) only [nI_ltI, nI_leI, nI_eq, bI_0, Decidable.not_not, lc_lt, lc_gt, lc_ge, lc_le, lc_eq, i64_toInt] at c8
    try simp (disch := omega) only [cv_lt, cv_le, cv_eq, nI_toInt, cv_0] at c8
    first
    | omega
    | refine r_aload0 hR dX8_missed_11 ?_
      refine r_ldc hR ct_X8_41 dX8_missed_12 ?_
      refine r_cv1v hR kv_X8_43 (by decide) (t_X8_findsC (n := 0) (by decide) (by decide)) (by first | decide | assumption | (simp only [gcnt_4, gcnt_1, gcnt_2, gcnt_3, gcnt_12, gcnt_13, gcnt_16]; omega)) rfl rfl (Nat.le_of_ble_eq_true rfl) dX8_missed_14 ?_
      refine r_iret hR dX8_missed_17 ?_
      refine Qm_fnd hc (by decide) ?_
      unfold oMissed
      dsimp only [okI, okT]
      (repeat' split) <;> first | rfl | omega

set_option maxHeartbeats 4000000 in
set_option maxRecDepth 100000 in
theorem t_X8_enough {G : gG} {M : gM} {A : gA} {x y : Int32} (hc : mdlP M A) (hw : wfA A) : Ct G mX8_enough 7 [.ref (ad G 15 0), .int x, .int y] M (Qm M (oEnough A x y)) := by
  obtain ⟨hwf, hday, hwk, hk2, hl, hT, hsh⟩ := id hw
  obtain ⟨w0, w1, w2, w3, wr, wt⟩ := id hwf
  obtain ⟨h, hKp, hkk, hlp, htp, hshp, hfp⟩ := id hc
  refine Ct.of (by decide +kernel) (k := 2) (ls0 := [some (.ref (ad G 15 0)), some (.int x), some (.int y), none, none]) rfl rfl (fun _ _ => trivial) ?_
  intro P hR
  refine r_iload1 hR dX8_enough_0 ?_
  refine r_i2l hR dX8_enough_1 ?_
  refine r_iconst hR (nI 1) (by decide) dX8_enough_2 ?_
  refine r_bipush hR (nI 30) (by decide) dX8_enough_3 ?_
  refine r_cs3v hR ks_X8_47 (by decide) (t_X8_in) (Nat.le_of_ble_eq_true rfl) dX8_enough_5 ?_
  refine r_if_eq hR 22 dX8_enough_8 (by decide) (fun c8 => ?_) (fun c8 => ?_)
  · try simp (disch := omega) only [nI_ltI, nI_leI, nI_eq, bI_0, Decidable.not_not, lc_lt, lc_gt, lc_ge, lc_le, lc_eq, i64_toInt] at c8
    try simp (disch := omega) only [cv_lt, cv_le, cv_eq, nI_toInt, cv_0] at c8
    first
    | omega
    | refine r_aload0 hR dX8_enough_22 ?_
      refine r_ldc hR ct_X8_41 dX8_enough_23 ?_
      refine r_cv1v hR kv_X8_43 (by decide) (t_X8_findsC (n := 0) (by decide) (by decide)) (by first | decide | assumption | (simp only [gcnt_4, gcnt_1, gcnt_2, gcnt_3, gcnt_12, gcnt_13, gcnt_16]; omega)) rfl rfl (Nat.le_of_ble_eq_true rfl) dX8_enough_25 ?_
      refine r_iret hR dX8_enough_28 ?_
      refine Qm_fnd hc (by decide) ?_
      unfold oEnough
      dsimp only [okI, okT]
      (repeat' split) <;> first | rfl | omega
  · try simp (disch := omega) only [nI_ltI, nI_leI, nI_eq, bI_0, Decidable.not_not, lc_lt, lc_gt, lc_ge, lc_le, lc_eq, i64_toInt] at c8
    try simp (disch := omega) only [cv_lt, cv_le, cv_eq, nI_toInt, cv_0] at c8
    first
    | omega
    | refine r_iload2 hR dX8_enough_11 ?_
      refine r_i2l hR dX8_enough_12 ?_
      refine r_iconst hR (nI 0) (by decide) dX8_enough_13 ?_
      refine r_ldcN hR ct_X8_103 99999 (by decide) dX8_enough_14 ?_
      refine r_cs3v hR ks_X8_47 (by decide) (t_X8_in) (Nat.le_of_ble_eq_true rfl) dX8_enough_16 ?_
      refine r_if_ne hR 29 dX8_enough_19 (by decide) (fun c19 => ?_) (fun c19 => ?_)
      · try simp (disch := omega) only [nI_ltI, nI_leI, nI_eq, bI_0, Decidable.not_not, lc_lt, lc_gt, lc_ge, lc_le, lc_eq, i64_toInt] at c19
        try simp (disch := omega) only [cv_lt, cv_le, cv_eq, nI_toInt, cv_0] at c19
        first
        | omega
        | obtain ⟨n, hn, rfl⟩ := of_in (x := x) (N := 30) (by omega)
          obtain ⟨v, hv, rfl⟩ := of_in (x := y) (N := 99999) (by omega)
          simp (disch := omega) only [nI_toInt] at c8
          have e : oEnough A (nI n) (nI v) = if firstN (fun f => decide (v ≤ gainN n (va_up (aS A) 1 f))) 10 0 = 10 then fnd A 3 else (nI (firstN (fun f => decide (v ≤ gainN n (va_up (aS A) 1 f))) 10 0), A) := by
            unfold oEnough
            rw [if_pos (by simp (disch := omega) only [okI, okT, nI_toInt]; omega)]
            simp (disch := omega) only [uN_nI]
          have L : ∀ (j i : Nat) (x4 : Int32), i + j = 10 → x4 = nI (10 - i) + (-1) → P 39 [some (.ref (ad G 15 0)), some (.int (nI n)), some (.int (nI v)), some (.int (enB (fun f => decide (v ≤ gainN n (va_up (aS A) 1 f))) i)), some (.int x4)] [] (thM M) := by
            intro j
            induction j with
            | zero =>
              intro i x4 hij hx4
              have hin : i = 10 := by omega
              subst hin
              rw [show nI (10 - 10) + (-1 : Int32) = -1 from by decide] at hx4
              subst hx4
              have hm1 : (-1 : Int32).toInt = -1 := by decide
              refine r_iload4 hR dX8_enough_39 ?_
              refine r_if_lt hR 74 dX8_enough_41 (by decide) (fun c41 => ?_) (fun c41 => ?_)
              · try simp (disch := omega) only [nI_ltI, nI_leI, nI_eq, bI_0, Decidable.not_not, lc_lt, lc_gt, lc_ge, lc_le, lc_eq, i64_toInt] at c41
                try simp (disch := omega) only [cv_lt, cv_le, cv_eq, nI_toInt, cv_0] at c41
                first
                | omega
                | refine r_aload0 hR dX8_enough_74 ?_
                  refine r_iload3 hR dX8_enough_75 ?_
                  refine r_cv1v hR kv_X8_72 (by decide) (t_X8_orNone) (by first | decide | assumption | (simp only [gcnt_4, gcnt_1, gcnt_2, gcnt_3, gcnt_12, gcnt_13, gcnt_16]; omega)) rfl rfl (Nat.le_of_ble_eq_true rfl) dX8_enough_76 ?_
                  refine r_iret hR dX8_enough_79 ?_
                  exact Qm_or (eqY_th M) hc (okB_en _ 10 (by omega)) (e.trans enB_r)
              · try simp (disch := omega) only [nI_ltI, nI_leI, nI_eq, bI_0, Decidable.not_not, lc_lt, lc_gt, lc_ge, lc_le, lc_eq, i64_toInt] at c41
                try simp (disch := omega) only [cv_lt, cv_le, cv_eq, nI_toInt, cv_0] at c41
                first
                | omega
                | refine r_aload0 hR dX8_enough_44 ?_
                  refine r_get hR (by first | decide | assumption | (simp only [gcnt_4, gcnt_1, gcnt_2, gcnt_3, gcnt_12, gcnt_13, gcnt_16]; omega)) fl_X8_9 rfl rfl dX8_enough_45 ?_
                  refine r_iconst hR (nI 1) (by decide) dX8_enough_48 ?_
                  refine r_iload4 hR dX8_enough_49 ?_
                  refine r_iast hR (by first | decide | assumption | (simp only [gcnt_4, gcnt_1, gcnt_2, gcnt_3, gcnt_12, gcnt_13, gcnt_16]; omega)) (fun _ => rfl) rfl (by omega) (by decide) dX8_enough_51 ?_
                  refine r_aload0 hR dX8_enough_52 ?_
                  refine r_iload1 hR dX8_enough_53 ?_
                  refine r_cv1v hR kv_X8_139 (by decide) (t_X8_gainOn (rowP_up (row_th h) (by omega)) hwS (by show aS A 0 + n < 20000; omega)) (by first | decide | assumption | (simp only [gcnt_4, gcnt_1, gcnt_2, gcnt_3, gcnt_12, gcnt_13, gcnt_16]; omega)) rfl rfl (Nat.le_of_ble_eq_true rfl) dX8_enough_54 ?_
                  rw [bk_seti _ (by omega), bk_th]
                  refine r_iload2 hR dX8_enough_57 ?_
                  refine r_icmp_lt hR 66 dX8_enough_58 (by decide) (fun c58 => ?_) (fun c58 => ?_)
                  · try simp (disch := omega) only [nI_ltI, nI_leI, nI_eq, bI_0, Decidable.not_not, lc_lt, lc_gt, lc_ge, lc_le, lc_eq, i64_toInt] at c58
                    try simp (disch := omega) only [cv_lt, cv_le, cv_eq, nI_toInt, cv_0] at c58
                    first
                    | omega
                    | refine r_iload3 hR dX8_enough_66 ?_
                      refine r_istore3 hR (fun _ h => by first | (cases h; rfl) | exact absurd h (by simp)) dX8_enough_67 ?_
                      refine r_iinc4 hR (-1) (by decide) (fun _ h => by first | (cases h; rfl) | exact absurd h (by simp)) dX8_enough_68 ?_
                      refine r_goto hR 39 dX8_enough_71 (by decide) ?_
                      omega
                  · try simp (disch := omega) only [nI_ltI, nI_leI, nI_eq, bI_0, Decidable.not_not, lc_lt, lc_gt, lc_ge, lc_le, lc_eq, i64_toInt] at c58
                    try simp (disch := omega) only [cv_lt, cv_le, cv_eq, nI_toInt, cv_0] at c58
                    first
                    | omega
                    | refine r_iload4 hR dX8_enough_61 ?_
                      refine r_goto hR 67 dX8_enough_63 (by decide) ?_
                      refine r_istore3 hR (fun _ h => by first | (cases h; rfl) | exact absurd h (by simp)) dX8_enough_67 ?_
                      refine r_iinc4 hR (-1) (by decide) (fun _ h => by first | (cases h; rfl) | exact absurd h (by simp)) dX8_enough_68 ?_
                      refine r_goto hR 39 dX8_enough_71 (by decide) ?_
                      omega
            | succ j ih =>
              intro i x4 hij hx4
              obtain ⟨k, hk⟩ : ∃ k, 10 - i = k + 1 := ⟨10 - i - 1, by omega⟩
              rw [hk, pk_m1] at hx4
              subst hx4
              have hwS : wfS (va_up (aS A) 1 k) := wf_force hwf (by omega)
              have hgg := gain_le hwS (n := n) (by show aS A 0 + n < 20000; omega)
              refine r_iload4 hR dX8_enough_39 ?_
              refine r_if_lt hR 74 dX8_enough_41 (by decide) (fun c41 => ?_) (fun c41 => ?_)
              · try simp (disch := omega) only [nI_ltI, nI_leI, nI_eq, bI_0, Decidable.not_not, lc_lt, lc_gt, lc_ge, lc_le, lc_eq, i64_toInt] at c41
                try simp (disch := omega) only [cv_lt, cv_le, cv_eq, nI_toInt, cv_0] at c41
                first
                | omega
                | refine r_aload0 hR dX8_enough_74 ?_
                  refine r_iload3 hR dX8_enough_75 ?_
                  refine r_cv1v hR kv_X8_72 (by decide) (t_X8_orNone) (by first | decide | assumption | (simp only [gcnt_4, gcnt_1, gcnt_2, gcnt_3, gcnt_12, gcnt_13, gcnt_16]; omega)) rfl rfl (Nat.le_of_ble_eq_true rfl) dX8_enough_76 ?_
                  refine r_iret hR dX8_enough_79 ?_
                  omega
              · try simp (disch := omega) only [nI_ltI, nI_leI, nI_eq, bI_0, Decidable.not_not, lc_lt, lc_gt, lc_ge, lc_le, lc_eq, i64_toInt] at c41
                try simp (disch := omega) only [cv_lt, cv_le, cv_eq, nI_toInt, cv_0] at c41
                first
                | omega
                | refine r_aload0 hR dX8_enough_44 ?_
                  refine r_get hR (by first | decide | assumption | (simp only [gcnt_4, gcnt_1, gcnt_2, gcnt_3, gcnt_12, gcnt_13, gcnt_16]; omega)) fl_X8_9 rfl rfl dX8_enough_45 ?_
                  refine r_iconst hR (nI 1) (by decide) dX8_enough_48 ?_
                  refine r_iload4 hR dX8_enough_49 ?_
                  refine r_iast hR (by first | decide | assumption | (simp only [gcnt_4, gcnt_1, gcnt_2, gcnt_3, gcnt_12, gcnt_13, gcnt_16]; omega)) (fun _ => rfl) rfl (by omega) (by decide) dX8_enough_51 ?_
                  refine r_aload0 hR dX8_enough_52 ?_
                  refine r_iload1 hR dX8_enough_53 ?_
                  refine r_cv1v hR kv_X8_139 (by decide) (t_X8_gainOn (rowP_up (row_th h) (by omega)) hwS (by show aS A 0 + n < 20000; omega)) (by first | decide | assumption | (simp only [gcnt_4, gcnt_1, gcnt_2, gcnt_3, gcnt_12, gcnt_13, gcnt_16]; omega)) rfl rfl (Nat.le_of_ble_eq_true rfl) dX8_enough_54 ?_
                  rw [bk_seti _ (by omega), bk_th]
                  refine r_iload2 hR dX8_enough_57 ?_
                  refine r_icmp_lt hR 66 dX8_enough_58 (by decide) (fun c58 => ?_) (fun c58 => ?_)
                  · try simp (disch := omega) only [nI_ltI, nI_leI, nI_eq, bI_0, Decidable.not_not, lc_lt, lc_gt, lc_ge, lc_le, lc_eq, i64_toInt] at c58
                    try simp (disch := omega) only [cv_lt, cv_le, cv_eq, nI_toInt, cv_0] at c58
                    first
                    | omega
                    | refine r_iload3 hR dX8_enough_66 ?_
                      refine r_istore3 hR (fun _ h => by first | (cases h; rfl) | exact absurd h (by simp)) dX8_enough_67 ?_
                      refine r_iinc4 hR (-1) (by decide) (fun _ h => by first | (cases h; rfl) | exact absurd h (by simp)) dX8_enough_68 ?_
                      refine r_goto hR 39 dX8_enough_71 (by decide) ?_
                      have es := enB_s (fun f => decide (v ≤ gainN n (va_up (aS A) 1 f))) (i := i) (k := k) (by omega)
                      have ih2 := ih (i + 1) (nI k + -1) (by omega) (by rw [show 10 - (i + 1) = k by omega])
                      first
                      | (rw [if_pos (by simp only [decide_eq_true_eq]; omega)] at es; rw [es] at ih2; exact ih2)
                      | (rw [if_neg (by simp only [decide_eq_true_eq]; omega)] at es; rw [es] at ih2; exact ih2)
                  · try simp (disch := omega) only [nI_ltI, nI_leI, nI_eq, bI_0, Decidable.not_not, lc_lt, lc_gt, lc_ge, lc_le, lc_eq, i64_toInt] at c58
                    try simp (disch := omega) only [cv_lt, cv_le, cv_eq, nI_toInt, cv_0] at c58
                    first
                    | omega
                    | refine r_iload4 hR dX8_enough_61 ?_
                      refine r_goto hR 67 dX8_enough_63 (by decide) ?_
                      refine r_istore3 hR (fun _ h => by first | (cases h; rfl) | exact absurd h (by simp)) dX8_enough_67 ?_
                      refine r_iinc4 hR (-1) (by decide) (fun _ h => by first | (cases h; rfl) | exact absurd h (by simp)) dX8_enough_68 ?_
                      refine r_goto hR 39 dX8_enough_71 (by decide) ?_
                      have es := enB_s (fun f => decide (v ≤ gainN n (va_up (aS A) 1 f))) (i := i) (k := k) (by omega)
                      have ih2 := ih (i + 1) (nI k + -1) (by omega) (by rw [show 10 - (i + 1) = k by omega])
                      first
                      | (rw [if_pos (by simp only [decide_eq_true_eq]; omega)] at es; rw [es] at ih2; exact ih2)
                      | (rw [if_neg (by simp only [decide_eq_true_eq]; omega)] at es; rw [es] at ih2; exact ih2)
          refine r_aload0 hR dX8_enough_29 ?_
          refine r_cv0u hR kv_X8_124 (by decide) (t_X8_thinks) (by first | decide | assumption | (simp only [gcnt_4, gcnt_1, gcnt_2, gcnt_3, gcnt_12, gcnt_13, gcnt_16]; omega)) rfl rfl (Nat.le_of_ble_eq_true rfl) dX8_enough_30 ?_
          refine r_iconst hR (-1) (by decide) dX8_enough_33 ?_
          refine r_istore3 hR (fun _ h => by first | (cases h; rfl) | exact absurd h (by simp)) dX8_enough_34 ?_
          refine r_bipush hR (nI 9) (by decide) dX8_enough_35 ?_
          refine r_istore4 hR (fun _ h => by first | (cases h; rfl) | exact absurd h (by simp)) dX8_enough_37 ?_
          exact L 10 0 _ rfl (by decide)
      · try simp (disch := omega) only [nI_ltI, nI_leI, nI_eq, bI_0, Decidable.not_not, lc_lt, lc_gt, lc_ge, lc_le, lc_eq, i64_toInt] at c19
        try simp (disch := omega) only [cv_lt, cv_le, cv_eq, nI_toInt, cv_0] at c19
        first
        | omega
        | refine r_aload0 hR dX8_enough_22 ?_
          refine r_ldc hR ct_X8_41 dX8_enough_23 ?_
          refine r_cv1v hR kv_X8_43 (by decide) (t_X8_findsC (n := 0) (by decide) (by decide)) (by first | decide | assumption | (simp only [gcnt_4, gcnt_1, gcnt_2, gcnt_3, gcnt_12, gcnt_13, gcnt_16]; omega)) rfl rfl (Nat.le_of_ble_eq_true rfl) dX8_enough_25 ?_
          refine r_iret hR dX8_enough_28 ?_
          refine Qm_fnd hc (by decide) ?_
          unfold oEnough
          dsimp only [okI, okT]
          (repeat' split) <;> first | rfl | omega

set_option maxHeartbeats 4000000 in
set_option maxRecDepth 100000 in
theorem t_X8_kind {G : gG} {M : gM} {A : gA} {x y : Int32} (hc : mdlP M A) (hw : wfA A) : Ct G mX8_kind 8 [.ref (ad G 15 0), .int x, .int y] M (Qm M (oKind A x y)) := by
  obtain ⟨hwf, hday, hwk, hk2, hl, hT, hsh⟩ := id hw
  obtain ⟨w0, w1, w2, w3, wr, wt⟩ := id hwf
  obtain ⟨h, hKp, hkk, hlp, htp, hshp, hfp⟩ := id hc
  refine Ct.of (by decide +kernel) (k := 0) (ls0 := [some (.ref (ad G 15 0)), some (.int x), some (.int y)]) rfl rfl (fun _ _ => trivial) ?_
  intro P hR
  refine r_aload0 hR dX8_kind_0 ?_
  refine r_iload1 hR dX8_kind_1 ?_
  refine r_cv1v hR kv_X8_97 (by decide) (t_X8_isThing h w3) (by first | decide | assumption | (simp only [gcnt_4, gcnt_1, gcnt_2, gcnt_3, gcnt_12, gcnt_13, gcnt_16]; omega)) rfl rfl (Nat.le_of_ble_eq_true rfl) dX8_kind_2 ?_
  refine r_if_eq hR 35 dX8_kind_5 (by decide) (fun c5 => ?_) (fun c5 => ?_)
  · try simp (disch := omega) only [nI_ltI, nI_leI, nI_eq, bI_0, Decidable.not_not, lc_lt, lc_gt, lc_ge, lc_le, lc_eq, i64_toInt] at c5
    try simp (disch := omega) only [cv_lt, cv_le, cv_eq, nI_toInt, cv_0] at c5
    first
    | omega
    | refine r_aload0 hR dX8_kind_35 ?_
      refine r_ldc hR ct_X8_41 dX8_kind_36 ?_
      refine r_cv1v hR kv_X8_43 (by decide) (t_X8_findsC (n := 0) (by decide) (by decide)) (by first | decide | assumption | (simp only [gcnt_4, gcnt_1, gcnt_2, gcnt_3, gcnt_12, gcnt_13, gcnt_16]; omega)) rfl rfl (Nat.le_of_ble_eq_true rfl) dX8_kind_38 ?_
      refine r_iret hR dX8_kind_41 ?_
      first
      | (have e : oKind A (nI t) (nI n) = (nI (bstAt (aS A) (11 + 4 * t) 5 n), A) := by
           unfold oKind
           rw [if_pos (by simp (disch := omega) only [okI, okT, nI_toInt]; omega)]
           simp (disch := omega) only [uN_nI]
         exact Qm_eqY (eqY_th M) hc e)
      | (refine Qm_fnd hc (by decide) ?_
         unfold oKind
         dsimp only [okI, okT]
         (repeat' split) <;> first | rfl | omega)
  · try simp (disch := omega) only [nI_ltI, nI_leI, nI_eq, bI_0, Decidable.not_not, lc_lt, lc_gt, lc_ge, lc_le, lc_eq, i64_toInt] at c5
    try simp (disch := omega) only [cv_lt, cv_le, cv_eq, nI_toInt, cv_0] at c5
    first
    | omega
    | refine r_iload2 hR dX8_kind_8 ?_
      refine r_i2l hR dX8_kind_9 ?_
      refine r_iconst hR (nI 1) (by decide) dX8_kind_10 ?_
      refine r_bipush hR (nI 30) (by decide) dX8_kind_11 ?_
      refine r_cs3v hR ks_X8_47 (by decide) (t_X8_in) (Nat.le_of_ble_eq_true rfl) dX8_kind_13 ?_
      refine r_if_eq hR 35 dX8_kind_16 (by decide) (fun c16 => ?_) (fun c16 => ?_)
      · try simp (disch := omega) only [nI_ltI, nI_leI, nI_eq, bI_0, Decidable.not_not, lc_lt, lc_gt, lc_ge, lc_le, lc_eq, i64_toInt] at c16
        try simp (disch := omega) only [cv_lt, cv_le, cv_eq, nI_toInt, cv_0] at c16
        first
        | omega
        | refine r_aload0 hR dX8_kind_35 ?_
          refine r_ldc hR ct_X8_41 dX8_kind_36 ?_
          refine r_cv1v hR kv_X8_43 (by decide) (t_X8_findsC (n := 0) (by decide) (by decide)) (by first | decide | assumption | (simp only [gcnt_4, gcnt_1, gcnt_2, gcnt_3, gcnt_12, gcnt_13, gcnt_16]; omega)) rfl rfl (Nat.le_of_ble_eq_true rfl) dX8_kind_38 ?_
          refine r_iret hR dX8_kind_41 ?_
          first
          | (have e : oKind A (nI t) (nI n) = (nI (bstAt (aS A) (11 + 4 * t) 5 n), A) := by
               unfold oKind
               rw [if_pos (by simp (disch := omega) only [okI, okT, nI_toInt]; omega)]
               simp (disch := omega) only [uN_nI]
             exact Qm_eqY (eqY_th M) hc e)
          | (refine Qm_fnd hc (by decide) ?_
             unfold oKind
             dsimp only [okI, okT]
             (repeat' split) <;> first | rfl | omega)
      · try simp (disch := omega) only [nI_ltI, nI_leI, nI_eq, bI_0, Decidable.not_not, lc_lt, lc_gt, lc_ge, lc_le, lc_eq, i64_toInt] at c16
        try simp (disch := omega) only [cv_lt, cv_le, cv_eq, nI_toInt, cv_0] at c16
        first
        | omega
        | obtain ⟨n, hn, rfl⟩ := of_in (x := y) (N := 30) (by omega)
          obtain ⟨t, ht0, rfl⟩ := of_in (x := x) (N := aS A 3 - 1) (by omega)
          have htt : t < aS A 3 := by rw [nI_toInt (by omega)] at c5; omega
          simp (disch := omega) only [nI_toInt] at c16
          refine r_aload0 hR dX8_kind_19 ?_
          refine r_bipush hR (nI 11) (by decide) dX8_kind_20 ?_
          refine r_iconst hR (nI 4) (by decide) dX8_kind_22 ?_
          refine r_iload1 hR dX8_kind_23 ?_
          refine r_imul hR dX8_kind_24 ?_
          try rw [pk_mul]
          refine r_iadd hR dX8_kind_25 ?_
          try rw [nI_add]
          refine r_bipush hR (nI 6) (by decide) dX8_kind_26 ?_
          refine r_iload2 hR dX8_kind_28 ?_
          refine r_cv3v hR kv_X8_142 (by decide) (t_X8_bestAt (m := 5) h hwf (by omega) (by omega) (by omega) (by decide) (fun v hv => by have q := wf_th hwf htt (w := 0) (v := v) (by decide) (by omega); rwa [Nat.add_zero] at q) (by omega)) (by first | decide | assumption | (simp only [gcnt_4, gcnt_1, gcnt_2, gcnt_3, gcnt_12, gcnt_13, gcnt_16]; omega)) rfl rfl (Nat.le_of_ble_eq_true rfl) dX8_kind_29 ?_
          refine r_goto hR 41 dX8_kind_32 (by decide) ?_
          refine r_iret hR dX8_kind_41 ?_
          first
          | (have e : oKind A (nI t) (nI n) = (nI (bstAt (aS A) (11 + 4 * t) 5 n), A) := by
               unfold oKind
               rw [if_pos (by simp (disch := omega) only [okI, okT, nI_toInt]; omega)]
               simp (disch := omega) only [uN_nI]
             exact Qm_eqY (eqY_th M) hc e)
          | (refine Qm_fnd hc (by decide) ?_
             unfold oKind
             dsimp only [okI, okT]
             (repeat' split) <;> first | rfl | omega)

set_option maxHeartbeats 4000000 in
set_option maxRecDepth 100000 in
theorem t_X8_facing {G : gG} {M : gM} {A : gA} {x y : Int32} (hc : mdlP M A) (hw : wfA A) : Ct G mX8_facing 8 [.ref (ad G 15 0), .int x, .int y] M (Qm M (oFacing A x y)) := by
  obtain ⟨hwf, hday, hwk, hk2, hl, hT, hsh⟩ := id hw
  obtain ⟨w0, w1, w2, w3, wr, wt⟩ := id hwf
  obtain ⟨h, hKp, hkk, hlp, htp, hshp, hfp⟩ := id hc
  refine Ct.of (by decide +kernel) (k := 0) (ls0 := [some (.ref (ad G 15 0)), some (.int x), some (.int y)]) rfl rfl (fun _ _ => trivial) ?_
  intro P hR
  refine r_aload0 hR dX8_facing_0 ?_
  refine r_iload1 hR dX8_facing_1 ?_
  refine r_cv1v hR kv_X8_97 (by decide) (t_X8_isThing h w3) (by first | decide | assumption | (simp only [gcnt_4, gcnt_1, gcnt_2, gcnt_3, gcnt_12, gcnt_13, gcnt_16]; omega)) rfl rfl (Nat.le_of_ble_eq_true rfl) dX8_facing_2 ?_
  refine r_if_eq hR 37 dX8_facing_5 (by decide) (fun c5 => ?_) (fun c5 => ?_)
  · try simp (disch := omega) only [nI_ltI, nI_leI, nI_eq, bI_0, Decidable.not_not, lc_lt, lc_gt, lc_ge, lc_le, lc_eq, i64_toInt] at c5
    try simp (disch := omega) only [cv_lt, cv_le, cv_eq, nI_toInt, cv_0] at c5
    first
    | omega
    | refine r_aload0 hR dX8_facing_37 ?_
      refine r_ldc hR ct_X8_41 dX8_facing_38 ?_
      refine r_cv1v hR kv_X8_43 (by decide) (t_X8_findsC (n := 0) (by decide) (by decide)) (by first | decide | assumption | (simp only [gcnt_4, gcnt_1, gcnt_2, gcnt_3, gcnt_12, gcnt_13, gcnt_16]; omega)) rfl rfl (Nat.le_of_ble_eq_true rfl) dX8_facing_40 ?_
      refine r_iret hR dX8_facing_43 ?_
      first
      | (have e : oFacing A (nI t) (nI n) = (nI (bstAt (aS A) (11 + 4 * t + 2) 7 n), A) := by
           unfold oFacing
           rw [if_pos (by simp (disch := omega) only [okI, okT, nI_toInt]; omega)]
           simp (disch := omega) only [uN_nI]
         exact Qm_eqY (eqY_th M) hc e)
      | (refine Qm_fnd hc (by decide) ?_
         unfold oFacing
         dsimp only [okI, okT]
         (repeat' split) <;> first | rfl | omega)
  · try simp (disch := omega) only [nI_ltI, nI_leI, nI_eq, bI_0, Decidable.not_not, lc_lt, lc_gt, lc_ge, lc_le, lc_eq, i64_toInt] at c5
    try simp (disch := omega) only [cv_lt, cv_le, cv_eq, nI_toInt, cv_0] at c5
    first
    | omega
    | refine r_iload2 hR dX8_facing_8 ?_
      refine r_i2l hR dX8_facing_9 ?_
      refine r_iconst hR (nI 1) (by decide) dX8_facing_10 ?_
      refine r_bipush hR (nI 30) (by decide) dX8_facing_11 ?_
      refine r_cs3v hR ks_X8_47 (by decide) (t_X8_in) (Nat.le_of_ble_eq_true rfl) dX8_facing_13 ?_
      refine r_if_eq hR 37 dX8_facing_16 (by decide) (fun c16 => ?_) (fun c16 => ?_)
      · try simp (disch := omega) only [nI_ltI, nI_leI, nI_eq, bI_0, Decidable.not_not, lc_lt, lc_gt, lc_ge, lc_le, lc_eq, i64_toInt] at c16
        try simp (disch := omega) only [cv_lt, cv_le, cv_eq, nI_toInt, cv_0] at c16
        first
        | omega
        | refine r_aload0 hR dX8_facing_37 ?_
          refine r_ldc hR ct_X8_41 dX8_facing_38 ?_
          refine r_cv1v hR kv_X8_43 (by decide) (t_X8_findsC (n := 0) (by decide) (by decide)) (by first | decide | assumption | (simp only [gcnt_4, gcnt_1, gcnt_2, gcnt_3, gcnt_12, gcnt_13, gcnt_16]; omega)) rfl rfl (Nat.le_of_ble_eq_true rfl) dX8_facing_40 ?_
          refine r_iret hR dX8_facing_43 ?_
          first
          | (have e : oFacing A (nI t) (nI n) = (nI (bstAt (aS A) (11 + 4 * t + 2) 7 n), A) := by
               unfold oFacing
               rw [if_pos (by simp (disch := omega) only [okI, okT, nI_toInt]; omega)]
               simp (disch := omega) only [uN_nI]
             exact Qm_eqY (eqY_th M) hc e)
          | (refine Qm_fnd hc (by decide) ?_
             unfold oFacing
             dsimp only [okI, okT]
             (repeat' split) <;> first | rfl | omega)
      · try simp (disch := omega) only [nI_ltI, nI_leI, nI_eq, bI_0, Decidable.not_not, lc_lt, lc_gt, lc_ge, lc_le, lc_eq, i64_toInt] at c16
        try simp (disch := omega) only [cv_lt, cv_le, cv_eq, nI_toInt, cv_0] at c16
        first
        | omega
        | obtain ⟨n, hn, rfl⟩ := of_in (x := y) (N := 30) (by omega)
          obtain ⟨t, ht0, rfl⟩ := of_in (x := x) (N := aS A 3 - 1) (by omega)
          have htt : t < aS A 3 := by rw [nI_toInt (by omega)] at c5; omega
          simp (disch := omega) only [nI_toInt] at c16
          refine r_aload0 hR dX8_facing_19 ?_
          refine r_bipush hR (nI 11) (by decide) dX8_facing_20 ?_
          refine r_iconst hR (nI 4) (by decide) dX8_facing_22 ?_
          refine r_iload1 hR dX8_facing_23 ?_
          refine r_imul hR dX8_facing_24 ?_
          try rw [pk_mul]
          refine r_iadd hR dX8_facing_25 ?_
          try rw [nI_add]
          refine r_iconst hR (nI 2) (by decide) dX8_facing_26 ?_
          refine r_iadd hR dX8_facing_27 ?_
          try rw [nI_add]
          refine r_bipush hR (nI 8) (by decide) dX8_facing_28 ?_
          refine r_iload2 hR dX8_facing_30 ?_
          refine r_cv3v hR kv_X8_142 (by decide) (t_X8_bestAt (m := 7) h hwf (by omega) (by omega) (by omega) (by decide) (fun v hv => wf_th hwf htt (by decide) (by omega)) (by omega)) (by first | decide | assumption | (simp only [gcnt_4, gcnt_1, gcnt_2, gcnt_3, gcnt_12, gcnt_13, gcnt_16]; omega)) rfl rfl (Nat.le_of_ble_eq_true rfl) dX8_facing_31 ?_
          refine r_goto hR 43 dX8_facing_34 (by decide) ?_
          refine r_iret hR dX8_facing_43 ?_
          first
          | (have e : oFacing A (nI t) (nI n) = (nI (bstAt (aS A) (11 + 4 * t + 2) 7 n), A) := by
               unfold oFacing
               rw [if_pos (by simp (disch := omega) only [okI, okT, nI_toInt]; omega)]
               simp (disch := omega) only [uN_nI]
             exact Qm_eqY (eqY_th M) hc e)
          | (refine Qm_fnd hc (by decide) ?_
             unfold oFacing
             dsimp only [okI, okT]
             (repeat' split) <;> first | rfl | omega)

set_option maxHeartbeats 4000000 in
set_option maxRecDepth 100000 in
theorem t_X8_best {G : gG} {M : gM} {A : gA} {x y : Int32} (hc : mdlP M A) (hw : wfA A) : Ct G mX8_best 8 [.ref (ad G 15 0), .int x, .int y] M (Qm M (oBest A x y)) := by
  obtain ⟨hwf, hday, hwk, hk2, hl, hT, hsh⟩ := id hw
  obtain ⟨w0, w1, w2, w3, wr, wt⟩ := id hwf
  obtain ⟨h, hKp, hkk, hlp, htp, hshp, hfp⟩ := id hc
  refine Ct.of (by decide +kernel) (k := 0) (ls0 := [some (.ref (ad G 15 0)), some (.int x), some (.int y)]) rfl rfl (fun _ _ => trivial) ?_
  intro P hR
  refine r_iload1 hR dX8_best_0 ?_
  refine r_i2l hR dX8_best_1 ?_
  refine r_iconst hR (nI 0) (by decide) dX8_best_2 ?_
  refine r_bipush hR (nI 6) (by decide) dX8_best_3 ?_
  refine r_cs3v hR ks_X8_47 (by decide) (t_X8_in) (Nat.le_of_ble_eq_true rfl) dX8_best_5 ?_
  refine r_if_eq hR 35 dX8_best_8 (by decide) (fun c8 => ?_) (fun c8 => ?_)
  · try simp (disch := omega) only [nI_ltI, nI_leI, nI_eq, bI_0, Decidable.not_not, lc_lt, lc_gt, lc_ge, lc_le, lc_eq, i64_toInt] at c8
    try simp (disch := omega) only [cv_lt, cv_le, cv_eq, nI_toInt, cv_0] at c8
    first
    | omega
    | refine r_aload0 hR dX8_best_35 ?_
      refine r_ldc hR ct_X8_41 dX8_best_36 ?_
      refine r_cv1v hR kv_X8_43 (by decide) (t_X8_findsC (n := 0) (by decide) (by decide)) (by first | decide | assumption | (simp only [gcnt_4, gcnt_1, gcnt_2, gcnt_3, gcnt_12, gcnt_13, gcnt_16]; omega)) rfl rfl (Nat.le_of_ble_eq_true rfl) dX8_best_38 ?_
      refine r_iret hR dX8_best_41 ?_
      first
      | (have e : oBest A (nI d) (nI n) = (nI (bstAt (aS A) (4 + d) 8 n), A) := by
           unfold oBest
           rw [if_pos (by simp (disch := omega) only [okI, okT, nI_toInt]; omega)]
           simp (disch := omega) only [uN_nI]
         exact Qm_eqY (eqY_th M) hc e)
      | (refine Qm_fnd hc (by decide) ?_
         unfold oBest
         dsimp only [okI, okT]
         (repeat' split) <;> first | rfl | omega)
  · try simp (disch := omega) only [nI_ltI, nI_leI, nI_eq, bI_0, Decidable.not_not, lc_lt, lc_gt, lc_ge, lc_le, lc_eq, i64_toInt] at c8
    try simp (disch := omega) only [cv_lt, cv_le, cv_eq, nI_toInt, cv_0] at c8
    first
    | omega
    | refine r_iload2 hR dX8_best_11 ?_
      refine r_i2l hR dX8_best_12 ?_
      refine r_iconst hR (nI 1) (by decide) dX8_best_13 ?_
      refine r_bipush hR (nI 30) (by decide) dX8_best_14 ?_
      refine r_cs3v hR ks_X8_47 (by decide) (t_X8_in) (Nat.le_of_ble_eq_true rfl) dX8_best_16 ?_
      refine r_if_eq hR 35 dX8_best_19 (by decide) (fun c19 => ?_) (fun c19 => ?_)
      · try simp (disch := omega) only [nI_ltI, nI_leI, nI_eq, bI_0, Decidable.not_not, lc_lt, lc_gt, lc_ge, lc_le, lc_eq, i64_toInt] at c19
        try simp (disch := omega) only [cv_lt, cv_le, cv_eq, nI_toInt, cv_0] at c19
        first
        | omega
        | refine r_aload0 hR dX8_best_35 ?_
          refine r_ldc hR ct_X8_41 dX8_best_36 ?_
          refine r_cv1v hR kv_X8_43 (by decide) (t_X8_findsC (n := 0) (by decide) (by decide)) (by first | decide | assumption | (simp only [gcnt_4, gcnt_1, gcnt_2, gcnt_3, gcnt_12, gcnt_13, gcnt_16]; omega)) rfl rfl (Nat.le_of_ble_eq_true rfl) dX8_best_38 ?_
          refine r_iret hR dX8_best_41 ?_
          first
          | (have e : oBest A (nI d) (nI n) = (nI (bstAt (aS A) (4 + d) 8 n), A) := by
               unfold oBest
               rw [if_pos (by simp (disch := omega) only [okI, okT, nI_toInt]; omega)]
               simp (disch := omega) only [uN_nI]
             exact Qm_eqY (eqY_th M) hc e)
          | (refine Qm_fnd hc (by decide) ?_
             unfold oBest
             dsimp only [okI, okT]
             (repeat' split) <;> first | rfl | omega)
      · try simp (disch := omega) only [nI_ltI, nI_leI, nI_eq, bI_0, Decidable.not_not, lc_lt, lc_gt, lc_ge, lc_le, lc_eq, i64_toInt] at c19
        try simp (disch := omega) only [cv_lt, cv_le, cv_eq, nI_toInt, cv_0] at c19
        first
        | omega
        | obtain ⟨d, hd, rfl⟩ := of_in (x := x) (N := 6) (by omega)
          obtain ⟨n, hn, rfl⟩ := of_in (x := y) (N := 30) (by omega)
          simp (disch := omega) only [nI_toInt] at c19
          refine r_aload0 hR dX8_best_22 ?_
          refine r_iconst hR (nI 4) (by decide) dX8_best_23 ?_
          refine r_iload1 hR dX8_best_24 ?_
          refine r_iadd hR dX8_best_25 ?_
          try rw [nI_add]
          refine r_bipush hR (nI 9) (by decide) dX8_best_26 ?_
          refine r_iload2 hR dX8_best_28 ?_
          refine r_cv3v hR kv_X8_142 (by decide) (t_X8_bestAt (m := 8) h hwf (by omega) (by omega) (by omega) (by decide) (fun v hv => wf_rota hwf (by omega) hv) (by omega)) (by first | decide | assumption | (simp only [gcnt_4, gcnt_1, gcnt_2, gcnt_3, gcnt_12, gcnt_13, gcnt_16]; omega)) rfl rfl (Nat.le_of_ble_eq_true rfl) dX8_best_29 ?_
          refine r_goto hR 41 dX8_best_32 (by decide) ?_
          refine r_iret hR dX8_best_41 ?_
          first
          | (have e : oBest A (nI d) (nI n) = (nI (bstAt (aS A) (4 + d) 8 n), A) := by
               unfold oBest
               rw [if_pos (by simp (disch := omega) only [okI, okT, nI_toInt]; omega)]
               simp (disch := omega) only [uN_nI]
             exact Qm_eqY (eqY_th M) hc e)
          | (refine Qm_fnd hc (by decide) ?_
             unfold oBest
             dsimp only [okI, okT]
             (repeat' split) <;> first | rfl | omega)

