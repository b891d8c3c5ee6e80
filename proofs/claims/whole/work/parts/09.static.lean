set_option maxHeartbeats 4000000 in
set_option maxRecDepth 100000 in
theorem t_X7_cellBehind {G : gG} {M : gM} {c w : Nat} (hc : c < 36) (hw : w < 8) : Cf G mX7_cellBehind 1 [.int (nI c), .int (nI w)] M (some (.int (if bto c w < 36 then nI (bto c w) else -1))) M := by
  refine Ct.of (by decide) (k := 2) rfl rfl (fun _ _ => trivial) ?_
  intro P hR
  refine r_iload1 hR dX7_cellBehind_0 ?_
  refine r_if_lt hR 10 dX7_cellBehind_1 (by decide) (fun c1 => ?_) (fun c1 => ?_)
  · try simp (disch := omega) only [nI_ltI, nI_leI, nI_eq, bI_0, Decidable.not_not, lc_lt, lc_gt, lc_ge, lc_le, lc_eq, i64_toInt] at c1
    try simp (disch := omega) only [cv_lt, cv_le, cv_eq, nI_toInt, cv_0] at c1
    first
    | omega
    | refine r_iconst hR (-1) (by decide) dX7_cellBehind_10 ?_
      refine r_iret hR dX7_cellBehind_11 ?_
      refine ⟨congrArg (fun z => some (Value.int z)) ?_, rfl⟩
      have z := bto_t c hc w hw
      have z5 : (nI 5).toInt = 5 := by decide
      simp only [z5] at *
      first
      | exact (if_neg (fun q => by have := z.2.1.mpr q; omega)).symm
      | (have q : bto c w < 36 := z.2.1.mp (by omega)
         rw [if_pos q]
         exact (z.2.2 q).1)
  · try simp (disch := omega) only [nI_ltI, nI_leI, nI_eq, bI_0, Decidable.not_not, lc_lt, lc_gt, lc_ge, lc_le, lc_eq, i64_toInt] at c1
    try simp (disch := omega) only [cv_lt, cv_le, cv_eq, nI_toInt, cv_0] at c1
    first
    | omega
    | refine r_iload1 hR dX7_cellBehind_4 ?_
      refine r_bipush hR (nI 8) (by decide) dX7_cellBehind_5 ?_
      refine r_icmp_lt hR 12 dX7_cellBehind_7 (by decide) (fun c7 => ?_) (fun c7 => ?_)
      · try simp (disch := omega) only [nI_ltI, nI_leI, nI_eq, bI_0, Decidable.not_not, lc_lt, lc_gt, lc_ge, lc_le, lc_eq, i64_toInt] at c7
        try simp (disch := omega) only [cv_lt, cv_le, cv_eq, nI_toInt, cv_0] at c7
        first
        | omega
        | refine r_iload0 hR dX7_cellBehind_12 ?_
          refine r_bipush hR (nI 6) (by decide) dX7_cellBehind_13 ?_
          first | with_reducible refine r_idivN hR (by omega) (by omega) (by omega) dX7_cellBehind_15 ?_ | refine r_idiv hR (by decide) dX7_cellBehind_15 ?_
          refine r_gets hR 0 (by decide) sl_X7_279 dX7_cellBehind_16 ?_
          refine r_iload1 hR dX7_cellBehind_19 ?_
          refine r_tald hR (by decide) rfl (show _ < 8 by omega) (by decide) dX7_cellBehind_20 ?_
          first | with_reducible refine r_iaddN hR dX7_cellBehind_21 ?_ | refine r_iadd hR dX7_cellBehind_21 ?_
          refine r_istore2 hR (fun _ h => by first | (cases h; rfl) | exact absurd h (by simp)) dX7_cellBehind_22 ?_
          refine r_iload0 hR dX7_cellBehind_23 ?_
          refine r_bipush hR (nI 6) (by decide) dX7_cellBehind_24 ?_
          first | with_reducible refine r_iremN hR (by omega) (by omega) (by omega) dX7_cellBehind_26 ?_ | refine r_irem hR (by decide) dX7_cellBehind_26 ?_
          refine r_gets hR 1 (by decide) sl_X7_282 dX7_cellBehind_27 ?_
          refine r_iload1 hR dX7_cellBehind_30 ?_
          refine r_tald hR (by decide) rfl (show _ < 8 by omega) (by decide) dX7_cellBehind_31 ?_
          first | with_reducible refine r_iaddN hR dX7_cellBehind_32 ?_ | refine r_iadd hR dX7_cellBehind_32 ?_
          refine r_istore3 hR (fun _ h => by first | (cases h; rfl) | exact absurd h (by simp)) dX7_cellBehind_33 ?_
          refine r_iload2 hR dX7_cellBehind_34 ?_
          refine r_iconst hR (nI 5) (by decide) dX7_cellBehind_35 ?_
          refine r_cs2v hR ks_X7_77 (by decide) (t_X7_within) (Nat.le_of_ble_eq_true rfl) dX7_cellBehind_36 ?_
          refine r_if_eq hR 50 dX7_cellBehind_39 (by decide) (fun c39 => ?_) (fun c39 => ?_)
          · try simp (disch := omega) only [nI_ltI, nI_leI, nI_eq, bI_0, Decidable.not_not, lc_lt, lc_gt, lc_ge, lc_le, lc_eq, i64_toInt] at c39
            try simp (disch := omega) only [cv_lt, cv_le, cv_eq, nI_toInt, cv_0] at c39
            first
            | omega
            | refine r_iconst hR (-1) (by decide) dX7_cellBehind_50 ?_
              refine r_iret hR dX7_cellBehind_51 ?_
              refine ⟨congrArg (fun z => some (Value.int z)) ?_, rfl⟩
              have z := bto_t c hc w hw
              have z5 : (nI 5).toInt = 5 := by decide
              simp only [z5] at *
              first
              | exact (if_neg (fun q => by have := z.2.1.mpr q; omega)).symm
              | (have q : bto c w < 36 := z.2.1.mp (by omega)
                 rw [if_pos q]
                 exact (z.2.2 q).1)
          · try simp (disch := omega) only [nI_ltI, nI_leI, nI_eq, bI_0, Decidable.not_not, lc_lt, lc_gt, lc_ge, lc_le, lc_eq, i64_toInt] at c39
            try simp (disch := omega) only [cv_lt, cv_le, cv_eq, nI_toInt, cv_0] at c39
            first
            | omega
            | refine r_iload3 hR dX7_cellBehind_42 ?_
              refine r_iconst hR (nI 5) (by decide) dX7_cellBehind_43 ?_
              refine r_cs2v hR ks_X7_77 (by decide) (t_X7_within) (Nat.le_of_ble_eq_true rfl) dX7_cellBehind_44 ?_
              refine r_if_ne hR 52 dX7_cellBehind_47 (by decide) (fun c47 => ?_) (fun c47 => ?_)
              · try simp (disch := omega) only [nI_ltI, nI_leI, nI_eq, bI_0, Decidable.not_not, lc_lt, lc_gt, lc_ge, lc_le, lc_eq, i64_toInt] at c47
                try simp (disch := omega) only [cv_lt, cv_le, cv_eq, nI_toInt, cv_0] at c47
                first
                | omega
                | refine r_iload2 hR dX7_cellBehind_52 ?_
                  refine r_bipush hR (nI 6) (by decide) dX7_cellBehind_53 ?_
                  first | with_reducible refine r_imulN hR dX7_cellBehind_55 ?_ | refine r_imul hR dX7_cellBehind_55 ?_
                  refine r_iload3 hR dX7_cellBehind_56 ?_
                  first | with_reducible refine r_iaddN hR dX7_cellBehind_57 ?_ | refine r_iadd hR dX7_cellBehind_57 ?_
                  refine r_iret hR dX7_cellBehind_58 ?_
                  refine ⟨congrArg (fun z => some (Value.int z)) ?_, rfl⟩
                  have z := bto_t c hc w hw
                  have z5 : (nI 5).toInt = 5 := by decide
                  simp only [z5] at *
                  first
                  | exact (if_neg (fun q => by have := z.2.1.mpr q; omega)).symm
                  | (have q : bto c w < 36 := z.2.1.mp (by omega)
                     rw [if_pos q]
                     exact (z.2.2 q).1)
              · try simp (disch := omega) only [nI_ltI, nI_leI, nI_eq, bI_0, Decidable.not_not, lc_lt, lc_gt, lc_ge, lc_le, lc_eq, i64_toInt] at c47
                try simp (disch := omega) only [cv_lt, cv_le, cv_eq, nI_toInt, cv_0] at c47
                first
                | omega
                | refine r_iconst hR (-1) (by decide) dX7_cellBehind_50 ?_
                  refine r_iret hR dX7_cellBehind_51 ?_
                  refine ⟨congrArg (fun z => some (Value.int z)) ?_, rfl⟩
                  have z := bto_t c hc w hw
                  have z5 : (nI 5).toInt = 5 := by decide
                  simp only [z5] at *
                  first
                  | exact (if_neg (fun q => by have := z.2.1.mpr q; omega)).symm
                  | (have q : bto c w < 36 := z.2.1.mp (by omega)
                     rw [if_pos q]
                     exact (z.2.2 q).1)
      · try simp (disch := omega) only [nI_ltI, nI_leI, nI_eq, bI_0, Decidable.not_not, lc_lt, lc_gt, lc_ge, lc_le, lc_eq, i64_toInt] at c7
        try simp (disch := omega) only [cv_lt, cv_le, cv_eq, nI_toInt, cv_0] at c7
        first
        | omega
        | refine r_iconst hR (-1) (by decide) dX7_cellBehind_10 ?_
          refine r_iret hR dX7_cellBehind_11 ?_
          refine ⟨congrArg (fun z => some (Value.int z)) ?_, rfl⟩
          have z := bto_t c hc w hw
          have z5 : (nI 5).toInt = 5 := by decide
          simp only [z5] at *
          first
          | exact (if_neg (fun q => by have := z.2.1.mpr q; omega)).symm
          | (have q : bto c w < 36 := z.2.1.mp (by omega)
             rw [if_pos q]
             exact (z.2.2 q).1)

