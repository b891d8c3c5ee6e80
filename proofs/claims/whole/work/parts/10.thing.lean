set_option maxHeartbeats 4000000 in
set_option maxRecDepth 100000 in
theorem t_J9_floorMod_7cf53 {G : gG} {M : gM} {a b : Nat} (ha : a < 2 ^ 31) (hb0 : 0 < b) (hb : b < 2 ^ 31) : Cf G mJ9_floorMod_7cf53 0 [.int (nI a), .int (nI b)] M (some (.int (nI (a % b)))) M := by
  refine Ct.ofJ (by decide +kernel) (k := 1) rfl rfl (fun _ _ => trivial) ?_
  intro P hR
  refine r_iload0 hR dJ9_floorMod_7cf53_0 ?_
  refine r_iload1 hR dJ9_floorMod_7cf53_1 ?_
  first | with_reducible refine r_iremN hR ha hb0 hb dJ9_floorMod_7cf53_2 ?_ | refine r_irem hR (by decide) dJ9_floorMod_7cf53_2 ?_
  refine r_istore2 hR (fun _ h => by first | (cases h; rfl) | exact absurd h (by simp)) dJ9_floorMod_7cf53_3 ?_
  refine r_iload0 hR dJ9_floorMod_7cf53_4 ?_
  refine r_iload1 hR dJ9_floorMod_7cf53_5 ?_
  refine r_ixor hR dJ9_floorMod_7cf53_6 ?_
  rw [nx_xor]
  have hz : a ^^^ b < 2 ^ 31 := Nat.xor_lt_two_pow ha hb
  refine r_if_ge hR 18 dJ9_floorMod_7cf53_7 (by decide) (fun c7 => ?_) (fun c7 => ?_)
  · try simp (disch := omega) only [nI_ltI, nI_leI, nI_eq, bI_0, Decidable.not_not, lc_lt, lc_gt, lc_ge, lc_le, lc_eq, i64_toInt] at c7
    try simp (disch := omega) only [cv_lt, cv_le, cv_eq, nI_toInt, cv_0] at c7
    first
    | omega
    | refine r_iload2 hR dJ9_floorMod_7cf53_18 ?_
      refine r_iret hR dJ9_floorMod_7cf53_19 ?_
      exact ⟨rfl, rfl⟩
  · try simp (disch := omega) only [nI_ltI, nI_leI, nI_eq, bI_0, Decidable.not_not, lc_lt, lc_gt, lc_ge, lc_le, lc_eq, i64_toInt] at c7
    try simp (disch := omega) only [cv_lt, cv_le, cv_eq, nI_toInt, cv_0] at c7
    first
    | omega
    | refine r_iload2 hR dJ9_floorMod_7cf53_10 ?_
      refine r_if_eq hR 18 dJ9_floorMod_7cf53_11 (by decide) (fun c11 => ?_) (fun c11 => ?_)
      · try simp (disch := omega) only [nI_ltI, nI_leI, nI_eq, bI_0, Decidable.not_not, lc_lt, lc_gt, lc_ge, lc_le, lc_eq, i64_toInt] at c11
        try simp (disch := omega) only [cv_lt, cv_le, cv_eq, nI_toInt, cv_0] at c11
        first
        | omega
        | refine r_iload2 hR dJ9_floorMod_7cf53_18 ?_
          refine r_iret hR dJ9_floorMod_7cf53_19 ?_
          exact ⟨rfl, rfl⟩
      · try simp (disch := omega) only [nI_ltI, nI_leI, nI_eq, bI_0, Decidable.not_not, lc_lt, lc_gt, lc_ge, lc_le, lc_eq, i64_toInt] at c11
        try simp (disch := omega) only [cv_lt, cv_le, cv_eq, nI_toInt, cv_0] at c11
        first
        | omega
        | refine r_iload2 hR dJ9_floorMod_7cf53_14 ?_
          refine r_iload1 hR dJ9_floorMod_7cf53_15 ?_
          first | with_reducible refine r_iaddN hR dJ9_floorMod_7cf53_16 ?_ | refine r_iadd hR dJ9_floorMod_7cf53_16 ?_
          refine r_iret hR dJ9_floorMod_7cf53_17 ?_
          exact ⟨rfl, rfl⟩

set_option maxHeartbeats 4000000 in
set_option maxRecDepth 100000 in
theorem t_X5_off {G : gG} {M : gM} {t f w : Nat} (ht : t < 26) (hf : M.1 4 t 2 = nI f) (hf8 : f < 8) (hw : w < 9) : Cf G mX5_off 0 [.ref (ad G 4 t), .int (nI w)] M (some (.int (nI (offN f w)))) M := by
  refine Ct.of (by decide +kernel) (k := 0) rfl rfl (fun _ _ => trivial) ?_
  intro P hR
  refine r_iload1 hR dX5_off_0 ?_
  refine r_bipush hR (nI 8) (by decide) dX5_off_1 ?_
  refine r_icmp_ne hR 10 dX5_off_3 (by decide) (fun c3 => ?_) (fun c3 => ?_)
  · try simp (disch := omega) only [nI_ltI, nI_leI, nI_eq, bI_0, Decidable.not_not, lc_lt, lc_gt, lc_ge, lc_le, lc_eq, i64_toInt] at c3
    try simp (disch := omega) only [cv_lt, cv_le, cv_eq, nI_toInt, cv_0] at c3
    first
    | omega
    | refine r_getsN hR dX5_off_10 ?_
      refine r_iload1 hR dX5_off_13 ?_
      refine r_aload0 hR dX5_off_14 ?_
      refine r_get hR (by first | decide | assumption | (simp only [gcnt_4, gcnt_1, gcnt_2, gcnt_3, gcnt_12, gcnt_13, gcnt_16]; omega)) fl_X5_18 rfl rfl dX5_off_15 ?_
      try simp only [hf]
      refine r_isub hR dX5_off_18 ?_
      refine r_bipush hR (nI 7) (by decide) dX5_off_19 ?_
      refine r_iand hR dX5_off_21 ?_
      refine r_nm _ ((off_t f hf8 w hw).2 (by omega)).1 ?_
      refine r_tald hR (by decide) rfl (show _ < 8 by omega) (by decide) dX5_off_22 ?_
      refine r_nm _ ((off_t f hf8 w hw).2 (by omega)).2 ?_
      refine r_iret hR dX5_off_23 ?_
      first | exact ⟨rfl, rfl⟩ | (subst c3; exact ⟨rfl, rfl⟩)
  · try simp (disch := omega) only [nI_ltI, nI_leI, nI_eq, bI_0, Decidable.not_not, lc_lt, lc_gt, lc_ge, lc_le, lc_eq, i64_toInt] at c3
    try simp (disch := omega) only [cv_lt, cv_le, cv_eq, nI_toInt, cv_0] at c3
    first
    | omega
    | refine r_iconst hR (nI 4) (by decide) dX5_off_6 ?_
      refine r_goto hR 23 dX5_off_7 (by decide) ?_
      refine r_iret hR dX5_off_23 ?_
      first | exact ⟨rfl, rfl⟩ | (subst c3; exact ⟨rfl, rfl⟩)

set_option maxHeartbeats 4000000 in
set_option maxRecDepth 100000 in
theorem t_X5_isGoing {G : gG} {M : gM} {t k f w fo : Nat} (ht : t < 26) (hk : M.1 4 t 0 = nI k) (hf : M.1 4 t 2 = nI f) (hk6 : k < 6) (hf8 : f < 8) (hw : w < 9) (hfo : fo ≤ 9) : Cf G mX5_isGoing 1 [.ref (ad G 4 t), .int (nI w), .int (nI fo)] M (some (.int (bI (goN k f fo w)))) M := by
  refine Ct.of (by decide +kernel) (k := 0) rfl rfl (fun _ _ => trivial) ?_
  intro P hR
  refine r_iload1 hR dX5_isGoing_0 ?_
  refine r_bipush hR (nI 8) (by decide) dX5_isGoing_1 ?_
  refine r_icmp_ne hR 8 dX5_isGoing_3 (by decide) (fun c3 => ?_) (fun c3 => ?_)
  · try simp (disch := omega) only [nI_ltI, nI_leI, nI_eq, bI_0, Decidable.not_not, lc_lt, lc_gt, lc_ge, lc_le, lc_eq, i64_toInt] at c3
    try simp (disch := omega) only [cv_lt, cv_le, cv_eq, nI_toInt, cv_0] at c3
    first
    | omega
    | refine r_aload0 hR dX5_isGoing_8 ?_
      refine r_get hR (by first | decide | assumption | (simp only [gcnt_4, gcnt_1, gcnt_2, gcnt_3, gcnt_12, gcnt_13, gcnt_16]; omega)) fl_X5_9 rfl rfl dX5_isGoing_9 ?_
      try simp only [hk, hf]
      by_cases e1 : k = 1
      · refine r_swInN hR 1 e1 (by decide) 48 dX5_isGoing_12 (by decide) (by decide) rfl (by decide) ?_
        refine r_iload2 hR dX5_isGoing_48 ?_
        refine r_iconst hR (nI 2) (by decide) dX5_isGoing_49 ?_
        refine r_icmp_lt hR 57 dX5_isGoing_50 (by decide) (fun c50 => ?_) (fun c50 => ?_)
        · try simp (disch := omega) only [nI_ltI, nI_leI, nI_eq, bI_0, Decidable.not_not, lc_lt, lc_gt, lc_ge, lc_le, lc_eq, i64_toInt] at c50
          try simp (disch := omega) only [cv_lt, cv_le, cv_eq, nI_toInt, cv_0] at c50
          first
          | omega
          | refine r_iconst hR (nI 0) (by decide) dX5_isGoing_57 ?_
            refine r_zret hR dX5_isGoing_58 rfl ?_
            refine ⟨?_, rfl⟩
            first | (rw [bI_t]; omega) | (rw [bI_f]; omega)
        · try simp (disch := omega) only [nI_ltI, nI_leI, nI_eq, bI_0, Decidable.not_not, lc_lt, lc_gt, lc_ge, lc_le, lc_eq, i64_toInt] at c50
          try simp (disch := omega) only [cv_lt, cv_le, cv_eq, nI_toInt, cv_0] at c50
          first
          | omega
          | refine r_iconst hR (nI 1) (by decide) dX5_isGoing_53 ?_
            refine r_goto hR 58 dX5_isGoing_54 (by decide) ?_
            refine r_zret hR dX5_isGoing_58 rfl ?_
            refine ⟨?_, rfl⟩
            first | (rw [bI_t]; omega) | (rw [bI_f]; omega)
      · skip
        by_cases e2 : k = 2
        · refine r_swInN hR 2 e2 (by decide) 79 dX5_isGoing_12 (by decide) (by decide) rfl (by decide) ?_
          refine r_iload2 hR dX5_isGoing_79 ?_
          refine r_bipush hR (nI 9) (by decide) dX5_isGoing_80 ?_
          refine r_icmp_ne hR 89 dX5_isGoing_82 (by decide) (fun c82 => ?_) (fun c82 => ?_)
          · try simp (disch := omega) only [nI_ltI, nI_leI, nI_eq, bI_0, Decidable.not_not, lc_lt, lc_gt, lc_ge, lc_le, lc_eq, i64_toInt] at c82
            try simp (disch := omega) only [cv_lt, cv_le, cv_eq, nI_toInt, cv_0] at c82
            first
            | omega
            | refine r_iconst hR (nI 0) (by decide) dX5_isGoing_89 ?_
              refine r_zret hR dX5_isGoing_90 rfl ?_
              refine ⟨?_, rfl⟩
              first | (rw [bI_t]; omega) | (rw [bI_f]; omega)
          · try simp (disch := omega) only [nI_ltI, nI_leI, nI_eq, bI_0, Decidable.not_not, lc_lt, lc_gt, lc_ge, lc_le, lc_eq, i64_toInt] at c82
            try simp (disch := omega) only [cv_lt, cv_le, cv_eq, nI_toInt, cv_0] at c82
            first
            | omega
            | refine r_iconst hR (nI 1) (by decide) dX5_isGoing_85 ?_
              refine r_goto hR 90 dX5_isGoing_86 (by decide) ?_
              refine r_zret hR dX5_isGoing_90 rfl ?_
              refine ⟨?_, rfl⟩
              first | (rw [bI_t]; omega) | (rw [bI_f]; omega)
        · skip
          by_cases e3 : k = 3
          · refine r_swInN hR 3 e3 (by decide) 91 dX5_isGoing_12 (by decide) (by decide) rfl (by decide) ?_
            refine r_iconst hR (nI 0) (by decide) dX5_isGoing_91 ?_
            refine r_zret hR dX5_isGoing_92 rfl ?_
            refine ⟨?_, rfl⟩
            first | (rw [bI_t]; omega) | (rw [bI_f]; omega)
          · skip
            by_cases e4 : k = 4
            · refine r_swInN hR 4 e4 (by decide) 59 dX5_isGoing_12 (by decide) (by decide) rfl (by decide) ?_
              refine r_iload2 hR dX5_isGoing_59 ?_
              refine r_iconst hR (nI 2) (by decide) dX5_isGoing_60 ?_
              refine r_icmp_lt hR 77 dX5_isGoing_61 (by decide) (fun c61 => ?_) (fun c61 => ?_)
              · try simp (disch := omega) only [nI_ltI, nI_leI, nI_eq, bI_0, Decidable.not_not, lc_lt, lc_gt, lc_ge, lc_le, lc_eq, i64_toInt] at c61
                try simp (disch := omega) only [cv_lt, cv_le, cv_eq, nI_toInt, cv_0] at c61
                first
                | omega
                | refine r_iconst hR (nI 0) (by decide) dX5_isGoing_77 ?_
                  refine r_zret hR dX5_isGoing_78 rfl ?_
                  refine ⟨?_, rfl⟩
                  first | (rw [bI_t]; omega) | (rw [bI_f]; omega)
              · try simp (disch := omega) only [nI_ltI, nI_leI, nI_eq, bI_0, Decidable.not_not, lc_lt, lc_gt, lc_ge, lc_le, lc_eq, i64_toInt] at c61
                try simp (disch := omega) only [cv_lt, cv_le, cv_eq, nI_toInt, cv_0] at c61
                first
                | omega
                | refine r_aload0 hR dX5_isGoing_64 ?_
                  refine r_iload1 hR dX5_isGoing_65 ?_
                  refine r_cv1v hR kv_X5_24 (by decide) (t_X5_off ht hf hf8 hw) (by first | decide | assumption | (simp only [gcnt_4, gcnt_1, gcnt_2, gcnt_3, gcnt_12, gcnt_13, gcnt_16]; omega)) rfl rfl (Nat.le_of_ble_eq_true rfl) dX5_isGoing_66 ?_
                  have hof := (off_t f hf8 w hw).1
                  refine r_iconst hR (nI 1) (by decide) dX5_isGoing_69 ?_
                  refine r_icmp_gt hR 77 dX5_isGoing_70 (by decide) (fun c70 => ?_) (fun c70 => ?_)
                  · try simp (disch := omega) only [nI_ltI, nI_leI, nI_eq, bI_0, Decidable.not_not, lc_lt, lc_gt, lc_ge, lc_le, lc_eq, i64_toInt] at c70
                    try simp (disch := omega) only [cv_lt, cv_le, cv_eq, nI_toInt, cv_0] at c70
                    first
                    | omega
                    | refine r_iconst hR (nI 0) (by decide) dX5_isGoing_77 ?_
                      refine r_zret hR dX5_isGoing_78 rfl ?_
                      refine ⟨?_, rfl⟩
                      first | (rw [bI_t]; omega) | (rw [bI_f]; omega)
                  · try simp (disch := omega) only [nI_ltI, nI_leI, nI_eq, bI_0, Decidable.not_not, lc_lt, lc_gt, lc_ge, lc_le, lc_eq, i64_toInt] at c70
                    try simp (disch := omega) only [cv_lt, cv_le, cv_eq, nI_toInt, cv_0] at c70
                    first
                    | omega
                    | refine r_iconst hR (nI 1) (by decide) dX5_isGoing_73 ?_
                      refine r_goto hR 78 dX5_isGoing_74 (by decide) ?_
                      refine r_zret hR dX5_isGoing_78 rfl ?_
                      refine ⟨?_, rfl⟩
                      first | (rw [bI_t]; omega) | (rw [bI_f]; omega)
            · skip
              by_cases e5 : k = 5
              · refine r_swInN hR 5 e5 (by decide) 79 dX5_isGoing_12 (by decide) (by decide) rfl (by decide) ?_
                refine r_iload2 hR dX5_isGoing_79 ?_
                refine r_bipush hR (nI 9) (by decide) dX5_isGoing_80 ?_
                refine r_icmp_ne hR 89 dX5_isGoing_82 (by decide) (fun c82 => ?_) (fun c82 => ?_)
                · try simp (disch := omega) only [nI_ltI, nI_leI, nI_eq, bI_0, Decidable.not_not, lc_lt, lc_gt, lc_ge, lc_le, lc_eq, i64_toInt] at c82
                  try simp (disch := omega) only [cv_lt, cv_le, cv_eq, nI_toInt, cv_0] at c82
                  first
                  | omega
                  | refine r_iconst hR (nI 0) (by decide) dX5_isGoing_89 ?_
                    refine r_zret hR dX5_isGoing_90 rfl ?_
                    refine ⟨?_, rfl⟩
                    first | (rw [bI_t]; omega) | (rw [bI_f]; omega)
                · try simp (disch := omega) only [nI_ltI, nI_leI, nI_eq, bI_0, Decidable.not_not, lc_lt, lc_gt, lc_ge, lc_le, lc_eq, i64_toInt] at c82
                  try simp (disch := omega) only [cv_lt, cv_le, cv_eq, nI_toInt, cv_0] at c82
                  first
                  | omega
                  | refine r_iconst hR (nI 1) (by decide) dX5_isGoing_85 ?_
                    refine r_goto hR 90 dX5_isGoing_86 (by decide) ?_
                    refine r_zret hR dX5_isGoing_90 rfl ?_
                    refine ⟨?_, rfl⟩
                    first | (rw [bI_t]; omega) | (rw [bI_f]; omega)
              · skip
                refine r_swOutN hR (k := k) (by omega) 91 dX5_isGoing_12 (by omega) (by decide) ?_
                refine r_iconst hR (nI 0) (by decide) dX5_isGoing_91 ?_
                refine r_zret hR dX5_isGoing_92 rfl ?_
                refine ⟨?_, rfl⟩
                first | (rw [bI_t]; omega) | (rw [bI_f]; omega)
  · try simp (disch := omega) only [nI_ltI, nI_leI, nI_eq, bI_0, Decidable.not_not, lc_lt, lc_gt, lc_ge, lc_le, lc_eq, i64_toInt] at c3
    try simp (disch := omega) only [cv_lt, cv_le, cv_eq, nI_toInt, cv_0] at c3
    first
    | omega
    | refine r_iconst hR (nI 0) (by decide) dX5_isGoing_6 ?_
      refine r_zret hR dX5_isGoing_7 rfl ?_
      refine ⟨?_, rfl⟩
      first | (rw [bI_t]; omega) | (rw [bI_f]; omega)

set_option maxHeartbeats 4000000 in
set_option maxRecDepth 100000 in
theorem t_X5_cellAfter {G : gG} {M : gM} {t k f w fo c : Nat} (ht : t < 26) (hk : M.1 4 t 0 = nI k) (hf : M.1 4 t 2 = nI f) (hk6 : k < 6) (hf8 : f < 8) (hw : w < 9) (hfo : fo ≤ 9) (hc : c < 36) : Cf G mX5_cellAfter 2 [.ref (ad G 4 t), .int (nI c), .int (nI w), .int (nI fo)] M (some (.int (nI (wenN k f fo c w)))) M := by
  refine Ct.of (by decide +kernel) (k := 1) rfl rfl (fun _ _ => trivial) ?_
  intro P hR
  refine r_aload0 hR dX5_cellAfter_0 ?_
  refine r_iload2 hR dX5_cellAfter_1 ?_
  refine r_iload3 hR dX5_cellAfter_2 ?_
  refine r_cv2v hR kv_X5_34 (by decide) (t_X5_isGoing ht hk hf hk6 hf8 hw hfo) (by first | decide | assumption | (simp only [gcnt_4, gcnt_1, gcnt_2, gcnt_3, gcnt_12, gcnt_13, gcnt_16]; omega)) rfl rfl (Nat.le_of_ble_eq_true rfl) dX5_cellAfter_3 ?_
  refine r_if_ne hR 11 dX5_cellAfter_6 (by decide) (fun c6 => ?_) (fun c6 => ?_)
  · try simp (disch := omega) only [nI_ltI, nI_leI, nI_eq, bI_0, Decidable.not_not, lc_lt, lc_gt, lc_ge, lc_le, lc_eq, i64_toInt] at c6
    try simp (disch := omega) only [cv_lt, cv_le, cv_eq, nI_toInt, cv_0] at c6
    first
    | omega
    | obtain ⟨hw8, hgo⟩ : goN k f fo w := c6
      refine r_iload1 hR dX5_cellAfter_11 ?_
      refine r_iload2 hR dX5_cellAfter_12 ?_
      refine r_cn2v hR kn_X7_cellBehind (fun _ h => h.2.2.2.2.2.1) (by decide) (t_X7_cellBehind hc (by omega)) (Nat.le_of_ble_eq_true rfl) dX5_cellAfter_13 ?_
      have hb := (bto_t c hc w (by omega)).1
      obtain ⟨z, hz⟩ : ∃ z : Int32, z = (if bto c w < 36 then nI (bto c w) else -1) := ⟨_, rfl⟩
      rw [← hz]
      refine r_istore4 hR (fun _ h => by first | (cases h; rfl) | exact absurd h (by simp)) dX5_cellAfter_16 ?_
      refine r_iload4 hR dX5_cellAfter_18 ?_
      refine r_iconst hR (-1) (by decide) dX5_cellAfter_20 ?_
      refine r_icmp_ne hR 28 dX5_cellAfter_21 (by decide) (fun c21 => ?_) (fun c21 => ?_)
      · try simp (disch := omega) only [nI_ltI, nI_leI, nI_eq, bI_0, Decidable.not_not, lc_lt, lc_gt, lc_ge, lc_le, lc_eq, i64_toInt] at c21
        try simp (disch := omega) only [cv_lt, cv_le, cv_eq, nI_toInt, cv_0] at c21
        first
        | omega
        | have hb6 : bto c w < 36 := by
            by_cases q : bto c w < 36
            · exact q
            · rw [if_neg q] at hz
              rw [hz] at c21
              exact absurd rfl c21
          rw [if_pos hb6] at hz
          subst hz
          refine r_iload4 hR dX5_cellAfter_28 ?_
          refine r_iret hR dX5_cellAfter_30 ?_
          refine ⟨congrArg (fun z => some (Value.int (nI z))) ?_, rfl⟩
          unfold wenN
          split <;> first | rfl | omega
      · try simp (disch := omega) only [nI_ltI, nI_leI, nI_eq, bI_0, Decidable.not_not, lc_lt, lc_gt, lc_ge, lc_le, lc_eq, i64_toInt] at c21
        try simp (disch := omega) only [cv_lt, cv_le, cv_eq, nI_toInt, cv_0] at c21
        first
        | omega
        | have hb6 : ¬ bto c w < 36 := by
            intro q
            rw [if_pos q] at hz
            rw [hz] at c21
            have := nI_toInt (n := bto c w) (by omega)
            rw [c21, show (-1 : Int32).toInt = -1 from by decide] at this
            omega
          refine r_iload1 hR dX5_cellAfter_24 ?_
          refine r_goto hR 30 dX5_cellAfter_25 (by decide) ?_
          refine r_iret hR dX5_cellAfter_30 ?_
          refine ⟨congrArg (fun z => some (Value.int (nI z))) ?_, rfl⟩
          unfold wenN
          split <;> first | rfl | omega
  · try simp (disch := omega) only [nI_ltI, nI_leI, nI_eq, bI_0, Decidable.not_not, lc_lt, lc_gt, lc_ge, lc_le, lc_eq, i64_toInt] at c6
    try simp (disch := omega) only [cv_lt, cv_le, cv_eq, nI_toInt, cv_0] at c6
    first
    | omega
    | refine r_iload1 hR dX5_cellAfter_9 ?_
      refine r_iret hR dX5_cellAfter_10 ?_
      refine ⟨congrArg (fun z => some (Value.int (nI z))) ?_, rfl⟩
      unfold wenN
      split <;> first | rfl | omega

set_option maxHeartbeats 4000000 in
set_option maxRecDepth 100000 in
theorem t_X5_earnings {G : gG} {M : gM} {t k f w fo day : Nat} (ht : t < 26) (hk : M.1 4 t 0 = nI k) (hf : M.1 4 t 2 = nI f) (hk6 : k < 6) (hf8 : f < 8) (hw : w < 9) (hfo : fo ≤ 9) (hd : day < 2 ^ 30) : Cf G mX5_earnings 2 [.ref (ad G 4 t), .int (nI day), .int (nI w), .int (nI fo)] M (some (.int (nI (earN k f fo day w)))) M := by
  refine Ct.of (by decide +kernel) (k := 3) rfl rfl (fun _ _ => trivial) ?_
  intro P hR
  have hof := (off_t f hf8 w hw).1
  have hfel : felN fo w ≤ 9 := by unfold felN; split <;> omega
  have hmil := mil_le (f := f) (w := w) hfo
  have J44 : P 44 [some (.ref (ad G 4 t)), some (.int (nI day)), some (.int (nI w)), some (.int (nI fo)), some (.int (nI (felN fo w))), some (.int (nI (milN f fo w))), none] [.int (nI (driN fo w))] M := by
    refine r_istore6 hR (fun _ h => by first | (cases h; rfl) | exact absurd h (by simp)) dX5_earnings_44 ?_
    refine r_aload0 hR dX5_earnings_46 ?_
    refine r_get hR (by first | decide | assumption | (simp only [gcnt_4, gcnt_1, gcnt_2, gcnt_3, gcnt_12, gcnt_13, gcnt_16]; omega)) fl_X5_9 rfl rfl dX5_earnings_47 ?_
    try simp only [hk, hf]
    by_cases e1 : k = 1
    · refine r_swInN hR 1 e1 (by decide) 84 dX5_earnings_50 (by decide) (by decide) rfl (by decide) ?_
      refine r_iload5 hR dX5_earnings_84 ?_
      refine r_iconst hR (nI 1) (by decide) dX5_earnings_86 ?_
      first | with_reducible refine r_iaddN hR dX5_earnings_87 ?_ | refine r_iadd hR dX5_earnings_87 ?_
      refine r_iret hR dX5_earnings_88 ?_
      refine ⟨congrArg (fun z => some (Value.int (nI z))) ?_, rfl⟩
      unfold earN
      (repeat' split) <;> first | omega | rfl
    · skip
      by_cases e2 : k = 2
      · refine r_swInN hR 2 e2 (by decide) 89 dX5_earnings_50 (by decide) (by decide) rfl (by decide) ?_
        refine r_iload6 hR dX5_earnings_89 ?_
        refine r_iret hR dX5_earnings_91 ?_
        refine ⟨congrArg (fun z => some (Value.int (nI z))) ?_, rfl⟩
        unfold earN
        (repeat' split) <;> first | omega | rfl
      · skip
        by_cases e3 : k = 3
        · refine r_swInN hR 3 e3 (by decide) 92 dX5_earnings_50 (by decide) (by decide) rfl (by decide) ?_
          refine r_aload0 hR dX5_earnings_92 ?_
          refine r_iload2 hR dX5_earnings_93 ?_
          refine r_cv1v hR kv_X5_24 (by decide) (t_X5_off ht hf hf8 hw) (by first | decide | assumption | (simp only [gcnt_4, gcnt_1, gcnt_2, gcnt_3, gcnt_12, gcnt_13, gcnt_16]; omega)) rfl rfl (Nat.le_of_ble_eq_true rfl) dX5_earnings_94 ?_
          refine r_if_ne hR 107 dX5_earnings_97 (by decide) (fun c97 => ?_) (fun c97 => ?_)
          · try simp (disch := omega) only [nI_ltI, nI_leI, nI_eq, bI_0, Decidable.not_not, lc_lt, lc_gt, lc_ge, lc_le, lc_eq, i64_toInt] at c97
            try simp (disch := omega) only [cv_lt, cv_le, cv_eq, nI_toInt, cv_0] at c97
            first
            | omega
            | refine r_iload5 hR dX5_earnings_107 ?_
              refine r_iret hR dX5_earnings_109 ?_
              refine ⟨congrArg (fun z => some (Value.int (nI z))) ?_, rfl⟩
              unfold earN
              (repeat' split) <;> first | omega | rfl
          · try simp (disch := omega) only [nI_ltI, nI_leI, nI_eq, bI_0, Decidable.not_not, lc_lt, lc_gt, lc_ge, lc_le, lc_eq, i64_toInt] at c97
            try simp (disch := omega) only [cv_lt, cv_le, cv_eq, nI_toInt, cv_0] at c97
            first
            | omega
            | refine r_iconst hR (nI 2) (by decide) dX5_earnings_100 ?_
              refine r_iload5 hR dX5_earnings_101 ?_
              first | with_reducible refine r_imulN hR dX5_earnings_103 ?_ | refine r_imul hR dX5_earnings_103 ?_
              refine r_goto hR 109 dX5_earnings_104 (by decide) ?_
              refine r_iret hR dX5_earnings_109 ?_
              refine ⟨congrArg (fun z => some (Value.int (nI z))) ?_, rfl⟩
              unfold earN
              (repeat' split) <;> first | omega | rfl
        · skip
          by_cases e4 : k = 4
          · refine r_swInN hR 4 e4 (by decide) 110 dX5_earnings_50 (by decide) (by decide) rfl (by decide) ?_
            refine r_aload0 hR dX5_earnings_110 ?_
            refine r_iload2 hR dX5_earnings_111 ?_
            refine r_iload3 hR dX5_earnings_112 ?_
            refine r_cv2v hR kv_X5_34 (by decide) (t_X5_isGoing ht hk hf hk6 hf8 hw hfo) (by first | decide | assumption | (simp only [gcnt_4, gcnt_1, gcnt_2, gcnt_3, gcnt_12, gcnt_13, gcnt_16]; omega)) rfl rfl (Nat.le_of_ble_eq_true rfl) dX5_earnings_113 ?_
            refine r_if_eq hR 126 dX5_earnings_116 (by decide) (fun c116 => ?_) (fun c116 => ?_)
            · try simp (disch := omega) only [nI_ltI, nI_leI, nI_eq, bI_0, Decidable.not_not, lc_lt, lc_gt, lc_ge, lc_le, lc_eq, i64_toInt] at c116
              try simp (disch := omega) only [cv_lt, cv_le, cv_eq, nI_toInt, cv_0] at c116
              first
              | omega
              | refine r_iconst hR (nI 0) (by decide) dX5_earnings_126 ?_
                refine r_iret hR dX5_earnings_127 ?_
                refine ⟨congrArg (fun z => some (Value.int (nI z))) ?_, rfl⟩
                unfold earN
                (repeat' split) <;> first | omega | rfl
            · try simp (disch := omega) only [nI_ltI, nI_leI, nI_eq, bI_0, Decidable.not_not, lc_lt, lc_gt, lc_ge, lc_le, lc_eq, i64_toInt] at c116
              try simp (disch := omega) only [cv_lt, cv_le, cv_eq, nI_toInt, cv_0] at c116
              first
              | omega
              | refine r_iload5 hR dX5_earnings_119 ?_
                refine r_iconst hR (nI 1) (by decide) dX5_earnings_121 ?_
                first | with_reducible refine r_iaddN hR dX5_earnings_122 ?_ | refine r_iadd hR dX5_earnings_122 ?_
                refine r_goto hR 127 dX5_earnings_123 (by decide) ?_
                refine r_iret hR dX5_earnings_127 ?_
                refine ⟨congrArg (fun z => some (Value.int (nI z))) ?_, rfl⟩
                unfold earN
                (repeat' split) <;> first | omega | rfl
          · skip
            by_cases e5 : k = 5
            · refine r_swInN hR 5 e5 (by decide) 128 dX5_earnings_50 (by decide) (by decide) rfl (by decide) ?_
              refine r_iload1 hR dX5_earnings_128 ?_
              refine r_bipush hR (nI 7) (by decide) dX5_earnings_129 ?_
              refine r_cs2v hR ks_X5_38 (by decide) (t_J9_floorMod_7cf53 (by omega) (by decide) (by decide)) (Nat.le_of_ble_eq_true rfl) dX5_earnings_131 ?_
              refine r_iconst hR (nI 1) (by decide) dX5_earnings_134 ?_
              refine r_icmp_ne hR 145 dX5_earnings_135 (by decide) (fun c135 => ?_) (fun c135 => ?_)
              · try simp (disch := omega) only [nI_ltI, nI_leI, nI_eq, bI_0, Decidable.not_not, lc_lt, lc_gt, lc_ge, lc_le, lc_eq, i64_toInt] at c135
                try simp (disch := omega) only [cv_lt, cv_le, cv_eq, nI_toInt, cv_0] at c135
                first
                | omega
                | refine r_iload6 hR dX5_earnings_145 ?_
                  refine r_iret hR dX5_earnings_147 ?_
                  refine ⟨congrArg (fun z => some (Value.int (nI z))) ?_, rfl⟩
                  unfold earN
                  (repeat' split) <;> first | omega | rfl
              · try simp (disch := omega) only [nI_ltI, nI_leI, nI_eq, bI_0, Decidable.not_not, lc_lt, lc_gt, lc_ge, lc_le, lc_eq, i64_toInt] at c135
                try simp (disch := omega) only [cv_lt, cv_le, cv_eq, nI_toInt, cv_0] at c135
                first
                | omega
                | refine r_iload6 hR dX5_earnings_138 ?_
                  refine r_iconst hR (nI 5) (by decide) dX5_earnings_140 ?_
                  first | with_reducible refine r_iaddN hR dX5_earnings_141 ?_ | refine r_iadd hR dX5_earnings_141 ?_
                  refine r_goto hR 147 dX5_earnings_142 (by decide) ?_
                  refine r_iret hR dX5_earnings_147 ?_
                  refine ⟨congrArg (fun z => some (Value.int (nI z))) ?_, rfl⟩
                  unfold earN
                  (repeat' split) <;> first | omega | rfl
            · skip
              refine r_swOutN hR (k := k) (by omega) 148 dX5_earnings_50 (by omega) (by decide) ?_
              refine r_iload5 hR dX5_earnings_148 ?_
              refine r_iret hR dX5_earnings_150 ?_
              refine ⟨congrArg (fun z => some (Value.int (nI z))) ?_, rfl⟩
              unfold earN
              (repeat' split) <;> first | omega | rfl
  have J11 : P 11 [some (.ref (ad G 4 t)), some (.int (nI day)), some (.int (nI w)), some (.int (nI fo)), none, none, none] [.int (nI (felN fo w))] M := by
    refine r_istore4 hR (fun _ h => by first | (cases h; rfl) | exact absurd h (by simp)) dX5_earnings_11 ?_
    refine r_iconst hR (nI 0) (by decide) dX5_earnings_13 ?_
    refine r_iload4 hR dX5_earnings_14 ?_
    refine r_aload0 hR dX5_earnings_16 ?_
    refine r_iload2 hR dX5_earnings_17 ?_
    refine r_cv1v hR kv_X5_24 (by decide) (t_X5_off ht hf hf8 hw) (by first | decide | assumption | (simp only [gcnt_4, gcnt_1, gcnt_2, gcnt_3, gcnt_12, gcnt_13, gcnt_16]; omega)) rfl rfl (Nat.le_of_ble_eq_true rfl) dX5_earnings_18 ?_
    refine r_isub hR dX5_earnings_21 ?_
    refine r_max hR kmax_X5_28 (by decide) (Nat.le_of_ble_eq_true rfl) dX5_earnings_22 ?_
    refine r_nm (nI (milN f fo w)) (mx0 (by omega) (by omega)) ?_
    refine r_istore5 hR (fun _ h => by first | (cases h; rfl) | exact absurd h (by simp)) dX5_earnings_25 ?_
    refine r_iload4 hR dX5_earnings_27 ?_
    refine r_iconst hR (nI 1) (by decide) dX5_earnings_29 ?_
    refine r_icmp_lt hR 43 dX5_earnings_30 (by decide) (fun c30 => ?_) (fun c30 => ?_)
    · try simp (disch := omega) only [nI_ltI, nI_leI, nI_eq, bI_0, Decidable.not_not, lc_lt, lc_gt, lc_ge, lc_le, lc_eq, i64_toInt] at c30
      try simp (disch := omega) only [cv_lt, cv_le, cv_eq, nI_toInt, cv_0] at c30
      first
      | omega
      | refine r_iconst hR (nI 0) (by decide) dX5_earnings_43 ?_
        refine r_nm (nI (driN fo w)) (by unfold driN; split <;> first | rfl | omega) ?_
        exact J44
    · try simp (disch := omega) only [nI_ltI, nI_leI, nI_eq, bI_0, Decidable.not_not, lc_lt, lc_gt, lc_ge, lc_le, lc_eq, i64_toInt] at c30
      try simp (disch := omega) only [cv_lt, cv_le, cv_eq, nI_toInt, cv_0] at c30
      first
      | omega
      | refine r_iload4 hR dX5_earnings_33 ?_
        refine r_iconst hR (nI 5) (by decide) dX5_earnings_35 ?_
        refine r_icmp_gt hR 43 dX5_earnings_36 (by decide) (fun c36 => ?_) (fun c36 => ?_)
        · try simp (disch := omega) only [nI_ltI, nI_leI, nI_eq, bI_0, Decidable.not_not, lc_lt, lc_gt, lc_ge, lc_le, lc_eq, i64_toInt] at c36
          try simp (disch := omega) only [cv_lt, cv_le, cv_eq, nI_toInt, cv_0] at c36
          first
          | omega
          | refine r_iconst hR (nI 0) (by decide) dX5_earnings_43 ?_
            refine r_nm (nI (driN fo w)) (by unfold driN; split <;> first | rfl | omega) ?_
            exact J44
        · try simp (disch := omega) only [nI_ltI, nI_leI, nI_eq, bI_0, Decidable.not_not, lc_lt, lc_gt, lc_ge, lc_le, lc_eq, i64_toInt] at c36
          try simp (disch := omega) only [cv_lt, cv_le, cv_eq, nI_toInt, cv_0] at c36
          first
          | omega
          | refine r_iconst hR (nI 3) (by decide) dX5_earnings_39 ?_
            refine r_goto hR 44 dX5_earnings_40 (by decide) ?_
            refine r_nm (nI (driN fo w)) (by unfold driN; split <;> first | rfl | omega) ?_
            exact J44
  refine r_iload2 hR dX5_earnings_0 ?_
  refine r_bipush hR (nI 8) (by decide) dX5_earnings_1 ?_
  refine r_icmp_ne hR 10 dX5_earnings_3 (by decide) (fun c3 => ?_) (fun c3 => ?_)
  · try simp (disch := omega) only [nI_ltI, nI_leI, nI_eq, bI_0, Decidable.not_not, lc_lt, lc_gt, lc_ge, lc_le, lc_eq, i64_toInt] at c3
    try simp (disch := omega) only [cv_lt, cv_le, cv_eq, nI_toInt, cv_0] at c3
    first
    | omega
    | refine r_iload3 hR dX5_earnings_10 ?_
      refine r_nm (nI (felN fo w)) (by unfold felN; split <;> first | rfl | omega) ?_
      exact J11
  · try simp (disch := omega) only [nI_ltI, nI_leI, nI_eq, bI_0, Decidable.not_not, lc_lt, lc_gt, lc_ge, lc_le, lc_eq, i64_toInt] at c3
    try simp (disch := omega) only [cv_lt, cv_le, cv_eq, nI_toInt, cv_0] at c3
    first
    | omega
    | refine r_iconst hR (nI 0) (by decide) dX5_earnings_6 ?_
      refine r_goto hR 11 dX5_earnings_7 (by decide) ?_
      refine r_nm (nI (felN fo w)) (by unfold felN; split <;> first | rfl | omega) ?_
      exact J11

set_option maxHeartbeats 4000000 in
set_option maxRecDepth 100000 in
theorem t_X5_goDay {G : gG} {M : gM} {t k c f s w fo day : Nat} (ht : t < 26) (hk : M.1 4 t 0 = nI k) (hc : M.1 4 t 1 = nI c) (hf : M.1 4 t 2 = nI f) (hs : M.1 4 t 3 = nI s) (hk6 : k < 6) (hf8 : f < 8) (hw : w < 9) (hfo : fo ≤ 9) (hd : day < 2 ^ 30) (hc36 : c < 36) (hs9 : s ≤ 99999) : Cf G mX5_goDay 3 [.ref (ad G 4 t), .int (nI day), .int (nI w), .int (nI fo)] M none (seti (seti M 4 t 3 (nI (sumN s (earN k f fo day w)))) 4 t 1 (nI (wenN k f fo c w))) := by
  refine Ct.of (by decide +kernel) (k := 0) rfl rfl (fun _ _ => trivial) ?_
  intro P hR
  refine r_aload0 hR dX5_goDay_0 ?_
  refine r_ldcN hR ct_X5_44 99999 (by decide) dX5_goDay_1 ?_
  refine r_aload0 hR dX5_goDay_3 ?_
  refine r_get hR (by first | decide | assumption | (simp only [gcnt_4, gcnt_1, gcnt_2, gcnt_3, gcnt_12, gcnt_13, gcnt_16]; omega)) fl_X5_21 rfl rfl dX5_goDay_4 ?_
  try simp only [hk, hc, hf, hs, seti_r]
  refine r_aload0 hR dX5_goDay_7 ?_
  refine r_iload1 hR dX5_goDay_8 ?_
  refine r_iload2 hR dX5_goDay_9 ?_
  refine r_iload3 hR dX5_goDay_10 ?_
  refine r_cv3v hR kv_X5_45 (by decide) (t_X5_earnings ht hk hf hk6 hf8 hw hfo hd) (by first | decide | assumption | (simp only [gcnt_4, gcnt_1, gcnt_2, gcnt_3, gcnt_12, gcnt_13, gcnt_16]; omega)) rfl rfl (Nat.le_of_ble_eq_true rfl) dX5_goDay_11 ?_
  first | with_reducible refine r_iaddN hR dX5_goDay_14 ?_ | refine r_iadd hR dX5_goDay_14 ?_
  refine r_min hR kmin_X5_49 (by decide) (Nat.le_of_ble_eq_true rfl) dX5_goDay_15 ?_
  have hear := ear_le (k := k) (f := f) (day := day) (w := w) hfo
  refine r_nm (nI (sumN s (earN k f fo day w))) (mn (by decide) (by omega)) ?_
  refine r_puti hR (by first | decide | assumption | (simp only [gcnt_4, gcnt_1, gcnt_2, gcnt_3, gcnt_12, gcnt_13, gcnt_16]; omega)) fp_X5_21 rfl rfl (Nat.le_of_ble_eq_true rfl) rfl rfl dX5_goDay_18 ?_
  refine r_aload0 hR dX5_goDay_21 ?_
  refine r_aload0 hR dX5_goDay_22 ?_
  refine r_aload0 hR dX5_goDay_23 ?_
  refine r_get hR (by first | decide | assumption | (simp only [gcnt_4, gcnt_1, gcnt_2, gcnt_3, gcnt_12, gcnt_13, gcnt_16]; omega)) fl_X5_15 rfl rfl dX5_goDay_24 ?_
  try simp only [hk, hc, hf, hs, seti_r]
  refine r_nm (nI c) (by simp [seti_r, hc]) ?_
  refine r_iload2 hR dX5_goDay_27 ?_
  refine r_iload3 hR dX5_goDay_28 ?_
  refine r_cv3v hR kv_X5_52 (by decide) (t_X5_cellAfter ht (by simp [seti_r, hk]) (by simp [seti_r, hf]) hk6 hf8 hw hfo hc36) (by first | decide | assumption | (simp only [gcnt_4, gcnt_1, gcnt_2, gcnt_3, gcnt_12, gcnt_13, gcnt_16]; omega)) rfl rfl (Nat.le_of_ble_eq_true rfl) dX5_goDay_29 ?_
  refine r_puti hR (by first | decide | assumption | (simp only [gcnt_4, gcnt_1, gcnt_2, gcnt_3, gcnt_12, gcnt_13, gcnt_16]; omega)) fp_X5_15 rfl rfl (Nat.le_of_ble_eq_true rfl) rfl rfl dX5_goDay_32 ?_
  refine r_vret hR dX5_goDay_35 ?_
  exact ⟨rfl, rfl⟩

set_option maxHeartbeats 4000000 in
set_option maxRecDepth 100000 in
theorem t_X5_become {G : gG} {M : gM} {t u : Nat} (ht : t < 26) (hu : u < 26) : Cf G mX5_become 0 [.ref (ad G 4 t), .ref (ad G 4 u)] M none (seti (seti (seti (seti M 4 t 0 (M.1 4 u 0)) 4 t 1 (M.1 4 u 1)) 4 t 2 (M.1 4 u 2)) 4 t 3 (M.1 4 u 3)) := by
  refine Ct.of (by decide +kernel) (k := 0) rfl rfl (fun _ _ => trivial) ?_
  intro P hR
  refine r_aload0 hR dX5_become_0 ?_
  refine r_aload1 hR dX5_become_1 ?_
  refine r_get hR (by first | decide | assumption | (simp only [gcnt_4, gcnt_1, gcnt_2, gcnt_3, gcnt_12, gcnt_13, gcnt_16]; omega)) fl_X5_9 rfl rfl dX5_become_2 ?_
  refine r_puti hR (by first | decide | assumption | (simp only [gcnt_4, gcnt_1, gcnt_2, gcnt_3, gcnt_12, gcnt_13, gcnt_16]; omega)) fp_X5_9 rfl rfl (Nat.le_of_ble_eq_true rfl) rfl rfl dX5_become_5 ?_
  refine r_aload0 hR dX5_become_8 ?_
  refine r_aload1 hR dX5_become_9 ?_
  refine r_get hR (by first | decide | assumption | (simp only [gcnt_4, gcnt_1, gcnt_2, gcnt_3, gcnt_12, gcnt_13, gcnt_16]; omega)) fl_X5_15 rfl rfl dX5_become_10 ?_
  refine r_nm (M.1 4 u 1) (by simp [seti_r]) ?_
  refine r_puti hR (by first | decide | assumption | (simp only [gcnt_4, gcnt_1, gcnt_2, gcnt_3, gcnt_12, gcnt_13, gcnt_16]; omega)) fp_X5_15 rfl rfl (Nat.le_of_ble_eq_true rfl) rfl rfl dX5_become_13 ?_
  refine r_aload0 hR dX5_become_16 ?_
  refine r_aload1 hR dX5_become_17 ?_
  refine r_get hR (by first | decide | assumption | (simp only [gcnt_4, gcnt_1, gcnt_2, gcnt_3, gcnt_12, gcnt_13, gcnt_16]; omega)) fl_X5_18 rfl rfl dX5_become_18 ?_
  refine r_nm (M.1 4 u 2) (by simp [seti_r]) ?_
  refine r_puti hR (by first | decide | assumption | (simp only [gcnt_4, gcnt_1, gcnt_2, gcnt_3, gcnt_12, gcnt_13, gcnt_16]; omega)) fp_X5_18 rfl rfl (Nat.le_of_ble_eq_true rfl) rfl rfl dX5_become_21 ?_
  refine r_aload0 hR dX5_become_24 ?_
  refine r_aload1 hR dX5_become_25 ?_
  refine r_get hR (by first | decide | assumption | (simp only [gcnt_4, gcnt_1, gcnt_2, gcnt_3, gcnt_12, gcnt_13, gcnt_16]; omega)) fl_X5_21 rfl rfl dX5_become_26 ?_
  refine r_nm (M.1 4 u 3) (by simp [seti_r]) ?_
  refine r_puti hR (by first | decide | assumption | (simp only [gcnt_4, gcnt_1, gcnt_2, gcnt_3, gcnt_12, gcnt_13, gcnt_16]; omega)) fp_X5_21 rfl rfl (Nat.le_of_ble_eq_true rfl) rfl rfl dX5_become_29 ?_
  refine r_vret hR dX5_become_32 ?_
  exact ⟨rfl, rfl⟩

