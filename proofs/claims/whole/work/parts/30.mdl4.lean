def okB (x : Int32) : Prop := x = -1 ∨ ∃ v, v < 1000 ∧ x = nI v
theorem okB_lt {x : Int32} (h : okB x) : x.toInt < 0 ↔ x = -1 := by
  rcases h with rfl | ⟨v, hv, rfl⟩
  · exact ⟨fun _ => rfl, fun _ => by decide⟩
  · have e := nI_toInt (n := v) (by omega)
    refine ⟨fun q => by omega, fun q => ?_⟩
    rw [q, show (-1 : Int32).toInt = -1 from by decide] at e
    omega
theorem Qm_or {M M' : gM} {A : gA} {R : Rs} {x : Int32} (h : eqY M M') (c : mdlP M A) (hx : okB x) (hR : R = if x = -1 then fnd A 3 else (x, A)) : Qm M R (some (.int (if x.toInt < 0 then -1000000001 - nI 3 else x))) (if x.toInt < 0 then seti M' 17 0 3 (M'.1 17 0 3 + nI 1) else M') := by
  by_cases q : x = -1
  · rw [if_pos ((okB_lt hx).mpr q), if_pos ((okB_lt hx).mpr q)]
    rw [if_pos q] at hR
    exact Qm_fndY h c (by decide) hR
  · rw [if_neg (fun z => q ((okB_lt hx).mp z)), if_neg (fun z => q ((okB_lt hx).mp z))]
    rw [if_neg q] at hR
    exact Qm_eqY h c hR
theorem okB_upB {st : Int32 × Nat} {v g : Nat} (h : okB st.1) (hv : v < 1000) : okB (upB st v g).1 := by
  unfold upB
  split
  · exact Or.inr ⟨v, hv, rfl⟩
  · exact h
theorem okB_swpB {S : Nat → Nat} {n a : Nat} {st : Int32 × Nat} (h : okB st.1) (ha : a < 7) (k : Nat) (hk : k < 10) : okB (swpB S n a st k).1 := by
  induction k with
  | zero => exact h
  | succ k ih => exact okB_upB (ih (by omega)) (by omega)
theorem okB_swpA {S : Nat → Nat} {n : Nat} (a : Nat) (ha : a ≤ 7) : okB (swpA S n a).1 := by
  induction a with
  | zero => exact Or.inl rfl
  | succ a ih => exact okB_swpB (ih (by omega)) (by omega) (6 - a) (by omega)
theorem okB_mis {S : Nat → Nat} {n : Nat} (i : Nat) (hi : i ≤ 8) : okB (misB S n i).1 := by
  induction i with
  | zero => exact Or.inl rfl
  | succ i ih =>
    unfold misB
    split
    · exact ih (by omega)
    · split
      · exact Or.inr ⟨i, by omega, rfl⟩
      · exact ih (by omega)
theorem mis_lt {S : Nat → Nat} {n : Nat} (hwf : wfS S) (hd : S 0 + n < 20000) (i : Nat) (hi : i ≤ 8) : (misB S n i).2 ≤ 99999 * 8 := by
  induction i with
  | zero => exact Nat.zero_le _
  | succ i ih =>
    unfold misB
    split
    · exact ih (by omega)
    · split
      · exact gain_le (wf_sick hwf (sick_t (S 2) hwf.2.2.1 i (by omega)).2.2.2.2) (by rw [vu_o (by omega)]; exact hd)
      · exact ih (by omega)
def enB (p : Nat → Bool) (i : Nat) : Int32 := if firstN p i (10 - i) = 10 then -1 else nI (firstN p i (10 - i))
theorem enB_s (p : Nat → Bool) {i k : Nat} (h : i + k = 9) : enB p (i + 1) = if p k then nI k else enB p i := by
  unfold enB
  rw [show 10 - (i + 1) = k by omega, show 10 - i = k + 1 by omega]
  have e : firstN p (i + 1) k = if p k then k else firstN p i (k + 1) := rfl
  by_cases q : p k = true
  · rw [if_pos q] at e
    rw [e, if_pos q, if_neg (by omega)]
  · rw [if_neg q] at e
    rw [e, if_neg q]
theorem okB_en (p : Nat → Bool) (i : Nat) (hi : i ≤ 10) : okB (enB p i) := by
  unfold enB
  have := first_le p i (10 - i)
  split
  · exact Or.inl rfl
  · exact Or.inr ⟨_, by omega, rfl⟩
theorem enB_r {p : Nat → Bool} {A : gA} : (if firstN p 10 0 = 10 then fnd A 3 else (nI (firstN p 10 0), A)) = if enB p 10 = -1 then fnd A 3 else (enB p 10, A) := by
  have := first_le p 10 0
  unfold enB
  rw [show 10 - 10 = 0 by omega]
  by_cases q : firstN p 10 0 = 10
  · rw [if_pos q, if_pos q, if_pos rfl]
  · rw [if_neg q, if_neg q]
    have e := nI_toInt (n := firstN p 10 0) (by omega)
    rw [if_neg (fun z => by rw [z, show (-1 : Int32).toInt = -1 from by decide] at e; omega)]
theorem row_swp {M : gM} {S : Nat → Nat} {a b : Nat} (h : rowP M 0 S) (hab : ¬ a = b) : rowP (seti (seti (thM M) 16 0 (4 + a) (nI (S (4 + b)))) 16 0 (4 + b) (nI (S (4 + a)))) 0 (swpS S a b) := by
  rw [← swpS_e hab]
  exact rowP_up (rowP_up (row_th h) (by omega)) (by omega)
set_option maxHeartbeats 4000000 in
set_option maxRecDepth 100000 in
theorem t_X8_on {G : gG} {M : gM} {A : gA} {x y z : Int32} (hc : mdlP M A) (hw : wfA A) : Ct G mX8_on 6 [.ref (ad G 15 0), .int x, .int y, .int z] M (Qm M (oOn A x y z)) := by
  obtain ⟨hwf, hday, hwk, hk2, hl, hT, hsh⟩ := id hw
  obtain ⟨w0, w1, w2, w3, wr, wt⟩ := id hwf
  obtain ⟨h, hKp, hkk, hlp, htp, hshp, hfp⟩ := id hc
  refine Ct.of (by decide +kernel) (k := 1) (ls0 := [some (.ref (ad G 15 0)), some (.int x), some (.int y), some (.int z), none]) rfl rfl (fun _ _ => trivial) ?_
  intro P hR
  refine r_aload0 hR dX8_on_0 ?_
  refine r_iload1 hR dX8_on_1 ?_
  refine r_cv1v hR kv_X8_97 (by decide) (t_X8_isThing h w3) (by first | decide | assumption | (simp only [gcnt_4, gcnt_1, gcnt_2, gcnt_3, gcnt_12, gcnt_13, gcnt_16]; omega)) rfl rfl (Nat.le_of_ble_eq_true rfl) dX8_on_2 ?_
  refine r_if_eq hR 29 dX8_on_5 (by decide) (fun c5 => ?_) (fun c5 => ?_)
  · try simp (disch := omega) only [nI_ltI, nI_leI, nI_eq, bI_0, Decidable.not_not, lc_lt, lc_gt, lc_ge, lc_le, lc_eq, i64_toInt] at c5
    try simp (disch := omega) only [cv_lt, cv_le, cv_eq, nI_toInt, cv_0] at c5
    first
    | omega
    | refine r_aload0 hR dX8_on_29 ?_
      refine r_ldc hR ct_X8_41 dX8_on_30 ?_
      refine r_cv1v hR kv_X8_43 (by decide) (t_X8_findsC (n := 0) (by decide) (by decide)) (by first | decide | assumption | (simp only [gcnt_4, gcnt_1, gcnt_2, gcnt_3, gcnt_12, gcnt_13, gcnt_16]; omega)) rfl rfl (Nat.le_of_ble_eq_true rfl) dX8_on_32 ?_
      refine r_iret hR dX8_on_35 ?_
      refine Qm_fnd hc (by decide) ?_
      unfold oOn
      dsimp only [okI, okT]
      (repeat' split) <;> first | rfl | omega
  · try simp (disch := omega) only [nI_ltI, nI_leI, nI_eq, bI_0, Decidable.not_not, lc_lt, lc_gt, lc_ge, lc_le, lc_eq, i64_toInt] at c5
    try simp (disch := omega) only [cv_lt, cv_le, cv_eq, nI_toInt, cv_0] at c5
    first
    | omega
    | refine r_iload2 hR dX8_on_8 ?_
      refine r_i2l hR dX8_on_9 ?_
      refine r_iconst hR (nI 0) (by decide) dX8_on_10 ?_
      refine r_bipush hR (nI 60) (by decide) dX8_on_11 ?_
      refine r_cs3v hR ks_X8_47 (by decide) (t_X8_in) (Nat.le_of_ble_eq_true rfl) dX8_on_13 ?_
      refine r_if_eq hR 29 dX8_on_16 (by decide) (fun c16 => ?_) (fun c16 => ?_)
      · try simp (disch := omega) only [nI_ltI, nI_leI, nI_eq, bI_0, Decidable.not_not, lc_lt, lc_gt, lc_ge, lc_le, lc_eq, i64_toInt] at c16
        try simp (disch := omega) only [cv_lt, cv_le, cv_eq, nI_toInt, cv_0] at c16
        first
        | omega
        | refine r_aload0 hR dX8_on_29 ?_
          refine r_ldc hR ct_X8_41 dX8_on_30 ?_
          refine r_cv1v hR kv_X8_43 (by decide) (t_X8_findsC (n := 0) (by decide) (by decide)) (by first | decide | assumption | (simp only [gcnt_4, gcnt_1, gcnt_2, gcnt_3, gcnt_12, gcnt_13, gcnt_16]; omega)) rfl rfl (Nat.le_of_ble_eq_true rfl) dX8_on_32 ?_
          refine r_iret hR dX8_on_35 ?_
          refine Qm_fnd hc (by decide) ?_
          unfold oOn
          dsimp only [okI, okT]
          (repeat' split) <;> first | rfl | omega
      · try simp (disch := omega) only [nI_ltI, nI_leI, nI_eq, bI_0, Decidable.not_not, lc_lt, lc_gt, lc_ge, lc_le, lc_eq, i64_toInt] at c16
        try simp (disch := omega) only [cv_lt, cv_le, cv_eq, nI_toInt, cv_0] at c16
        first
        | omega
        | refine r_iload3 hR dX8_on_19 ?_
          refine r_i2l hR dX8_on_20 ?_
          refine r_iconst hR (nI 0) (by decide) dX8_on_21 ?_
          refine r_iconst hR (nI 1) (by decide) dX8_on_22 ?_
          refine r_cs3v hR ks_X8_47 (by decide) (t_X8_in) (Nat.le_of_ble_eq_true rfl) dX8_on_23 ?_
          refine r_if_ne hR 36 dX8_on_26 (by decide) (fun c26 => ?_) (fun c26 => ?_)
          · try simp (disch := omega) only [nI_ltI, nI_leI, nI_eq, bI_0, Decidable.not_not, lc_lt, lc_gt, lc_ge, lc_le, lc_eq, i64_toInt] at c26
            try simp (disch := omega) only [cv_lt, cv_le, cv_eq, nI_toInt, cv_0] at c26
            first
            | omega
            | obtain ⟨n, hn, rfl⟩ := of_in (x := y) (N := 60) (by omega)
              obtain ⟨wh, hwh, rfl⟩ := of_in (x := z) (N := 1) (by omega)
              obtain ⟨t, ht0, rfl⟩ := of_in (x := x) (N := aS A 3 - 1) (by omega)
              have htt : t < aS A 3 := by rw [nI_toInt (by omega)] at c5; omega
              have e : oOn A (nI t) (nI n) (nI wh) = (nI (thg (dayN n (aS A)) t (if wh = 0 then 1 else 3)), A) := by
                unfold oOn
                rw [if_pos (by simp (disch := omega) only [okI, okT, nI_toInt]; omega)]
                simp (disch := omega) only [uN_nI]
              have L : ∀ (j i : Nat), i + j = n → P 43 [some (.ref (ad G 15 0)), some (.int (nI t)), some (.int (nI n)), some (.int (nI wh)), some (.int (nI i))] [] (pm (thM M) (dayN i (aS A))) := by
                intro j
                induction j with
                | zero =>
                  intro i  hij 
                  have hP := rowP_pm (thM M) (dayN i (aS A))
                  have wfi : wfS (dayN i (aS A)) := wf_dayN hwf (by omega)
                  have e3 := dayN_3 i (aS A)
                  refine r_iload4 hR dX8_on_43 ?_
                  refine r_iload2 hR dX8_on_45 ?_
                  refine r_icmp_ge hR 59 dX8_on_46 (by decide) (fun c46 => ?_) (fun c46 => ?_)
                  · try simp (disch := omega) only [nI_ltI, nI_leI, nI_eq, bI_0, Decidable.not_not, lc_lt, lc_gt, lc_ge, lc_le, lc_eq, i64_toInt] at c46
                    try simp (disch := omega) only [cv_lt, cv_le, cv_eq, nI_toInt, cv_0] at c46
                    first
                    | omega
                    | refine r_aload0 hR dX8_on_59 ?_
                      refine r_iload1 hR dX8_on_60 ?_
                      refine r_iload3 hR dX8_on_61 ?_
                      refine r_if_ne hR 69 dX8_on_62 (by decide) (fun c62 => ?_) (fun c62 => ?_)
                      · try simp (disch := omega) only [nI_ltI, nI_leI, nI_eq, bI_0, Decidable.not_not, lc_lt, lc_gt, lc_ge, lc_le, lc_eq, i64_toInt] at c62
                        try simp (disch := omega) only [cv_lt, cv_le, cv_eq, nI_toInt, cv_0] at c62
                        first
                        | omega
                        | refine r_iconst hR (nI 3) (by decide) dX8_on_69 ?_
                          refine r_cv2v hR kv_X8_75 (by decide) (t_X8_it hP (by omega) (by decide) (by omega)) (by first | decide | assumption | (simp only [gcnt_4, gcnt_1, gcnt_2, gcnt_3, gcnt_12, gcnt_13, gcnt_16]; omega)) rfl rfl (Nat.le_of_ble_eq_true rfl) dX8_on_70 ?_
                          refine r_istore4 hR (fun _ h => by first | (cases h; rfl) | exact absurd h (by simp)) dX8_on_73 ?_
                          refine r_aload0 hR dX8_on_75 ?_
                          refine r_cv0u hR kv_X8_127 (by decide) (t_X8_putsBack) (by first | decide | assumption | (simp only [gcnt_4, gcnt_1, gcnt_2, gcnt_3, gcnt_12, gcnt_13, gcnt_16]; omega)) rfl rfl (Nat.le_of_ble_eq_true rfl) dX8_on_76 ?_
                          rw [bk_put _ _ (by omega), bk_th]
                          refine r_iload4 hR dX8_on_79 ?_
                          refine r_iret hR dX8_on_81 ?_
                          first
                          | (obtain rfl : i = n := by omega
                             refine Qm_eqY (eqY_th M) hc ?_
                             rw [e]
                             first | rw [if_pos c62] | rw [if_neg c62])
                          | (omega)
                      · try simp (disch := omega) only [nI_ltI, nI_leI, nI_eq, bI_0, Decidable.not_not, lc_lt, lc_gt, lc_ge, lc_le, lc_eq, i64_toInt] at c62
                        try simp (disch := omega) only [cv_lt, cv_le, cv_eq, nI_toInt, cv_0] at c62
                        first
                        | omega
                        | refine r_iconst hR (nI 1) (by decide) dX8_on_65 ?_
                          refine r_goto hR 70 dX8_on_66 (by decide) ?_
                          refine r_cv2v hR kv_X8_75 (by decide) (t_X8_it hP (by omega) (by decide) (by omega)) (by first | decide | assumption | (simp only [gcnt_4, gcnt_1, gcnt_2, gcnt_3, gcnt_12, gcnt_13, gcnt_16]; omega)) rfl rfl (Nat.le_of_ble_eq_true rfl) dX8_on_70 ?_
                          refine r_istore4 hR (fun _ h => by first | (cases h; rfl) | exact absurd h (by simp)) dX8_on_73 ?_
                          refine r_aload0 hR dX8_on_75 ?_
                          refine r_cv0u hR kv_X8_127 (by decide) (t_X8_putsBack) (by first | decide | assumption | (simp only [gcnt_4, gcnt_1, gcnt_2, gcnt_3, gcnt_12, gcnt_13, gcnt_16]; omega)) rfl rfl (Nat.le_of_ble_eq_true rfl) dX8_on_76 ?_
                          rw [bk_put _ _ (by omega), bk_th]
                          refine r_iload4 hR dX8_on_79 ?_
                          refine r_iret hR dX8_on_81 ?_
                          first
                          | (obtain rfl : i = n := by omega
                             refine Qm_eqY (eqY_th M) hc ?_
                             rw [e]
                             first | rw [if_pos c62] | rw [if_neg c62])
                          | (omega)
                  · try simp (disch := omega) only [nI_ltI, nI_leI, nI_eq, bI_0, Decidable.not_not, lc_lt, lc_gt, lc_ge, lc_le, lc_eq, i64_toInt] at c46
                    try simp (disch := omega) only [cv_lt, cv_le, cv_eq, nI_toInt, cv_0] at c46
                    first
                    | omega
                    | refine r_aload0 hR dX8_on_49 ?_
                      refine r_cv0u hR kv_X8_113 (by decide) (t_X8_day hP wfi) (by first | decide | assumption | (simp only [gcnt_4, gcnt_1, gcnt_2, gcnt_3, gcnt_12, gcnt_13, gcnt_16]; omega)) rfl rfl (Nat.le_of_ble_eq_true rfl) dX8_on_50 ?_
                      refine r_iinc4 hR (nI 1) (by decide) (fun _ h => by first | (cases h; rfl) | exact absurd h (by simp)) dX8_on_53 ?_
                      try rw [nI_add]
                      refine r_goto hR 43 dX8_on_56 (by decide) ?_
                      omega
                | succ j ih =>
                  intro i  hij 
                  have hP := rowP_pm (thM M) (dayN i (aS A))
                  have wfi : wfS (dayN i (aS A)) := wf_dayN hwf (by omega)
                  have e3 := dayN_3 i (aS A)
                  refine r_iload4 hR dX8_on_43 ?_
                  refine r_iload2 hR dX8_on_45 ?_
                  refine r_icmp_ge hR 59 dX8_on_46 (by decide) (fun c46 => ?_) (fun c46 => ?_)
                  · try simp (disch := omega) only [nI_ltI, nI_leI, nI_eq, bI_0, Decidable.not_not, lc_lt, lc_gt, lc_ge, lc_le, lc_eq, i64_toInt] at c46
                    try simp (disch := omega) only [cv_lt, cv_le, cv_eq, nI_toInt, cv_0] at c46
                    first
                    | omega
                    | refine r_aload0 hR dX8_on_59 ?_
                      refine r_iload1 hR dX8_on_60 ?_
                      refine r_iload3 hR dX8_on_61 ?_
                      refine r_if_ne hR 69 dX8_on_62 (by decide) (fun c62 => ?_) (fun c62 => ?_)
                      · try simp (disch := omega) only [nI_ltI, nI_leI, nI_eq, bI_0, Decidable.not_not, lc_lt, lc_gt, lc_ge, lc_le, lc_eq, i64_toInt] at c62
                        try simp (disch := omega) only [cv_lt, cv_le, cv_eq, nI_toInt, cv_0] at c62
                        first
                        | omega
                        | refine r_iconst hR (nI 3) (by decide) dX8_on_69 ?_
                          refine r_cv2v hR kv_X8_75 (by decide) (t_X8_it hP (by omega) (by decide) (by omega)) (by first | decide | assumption | (simp only [gcnt_4, gcnt_1, gcnt_2, gcnt_3, gcnt_12, gcnt_13, gcnt_16]; omega)) rfl rfl (Nat.le_of_ble_eq_true rfl) dX8_on_70 ?_
                          refine r_istore4 hR (fun _ h => by first | (cases h; rfl) | exact absurd h (by simp)) dX8_on_73 ?_
                          refine r_aload0 hR dX8_on_75 ?_
                          refine r_cv0u hR kv_X8_127 (by decide) (t_X8_putsBack) (by first | decide | assumption | (simp only [gcnt_4, gcnt_1, gcnt_2, gcnt_3, gcnt_12, gcnt_13, gcnt_16]; omega)) rfl rfl (Nat.le_of_ble_eq_true rfl) dX8_on_76 ?_
                          rw [bk_put _ _ (by omega), bk_th]
                          refine r_iload4 hR dX8_on_79 ?_
                          refine r_iret hR dX8_on_81 ?_
                          first
                          | (obtain rfl : i = n := by omega
                             refine Qm_eqY (eqY_th M) hc ?_
                             rw [e]
                             first | rw [if_pos c62] | rw [if_neg c62])
                          | (omega)
                      · try simp (disch := omega) only [nI_ltI, nI_leI, nI_eq, bI_0, Decidable.not_not, lc_lt, lc_gt, lc_ge, lc_le, lc_eq, i64_toInt] at c62
                        try simp (disch := omega) only [cv_lt, cv_le, cv_eq, nI_toInt, cv_0] at c62
                        first
                        | omega
                        | refine r_iconst hR (nI 1) (by decide) dX8_on_65 ?_
                          refine r_goto hR 70 dX8_on_66 (by decide) ?_
                          refine r_cv2v hR kv_X8_75 (by decide) (t_X8_it hP (by omega) (by decide) (by omega)) (by first | decide | assumption | (simp only [gcnt_4, gcnt_1, gcnt_2, gcnt_3, gcnt_12, gcnt_13, gcnt_16]; omega)) rfl rfl (Nat.le_of_ble_eq_true rfl) dX8_on_70 ?_
                          refine r_istore4 hR (fun _ h => by first | (cases h; rfl) | exact absurd h (by simp)) dX8_on_73 ?_
                          refine r_aload0 hR dX8_on_75 ?_
                          refine r_cv0u hR kv_X8_127 (by decide) (t_X8_putsBack) (by first | decide | assumption | (simp only [gcnt_4, gcnt_1, gcnt_2, gcnt_3, gcnt_12, gcnt_13, gcnt_16]; omega)) rfl rfl (Nat.le_of_ble_eq_true rfl) dX8_on_76 ?_
                          rw [bk_put _ _ (by omega), bk_th]
                          refine r_iload4 hR dX8_on_79 ?_
                          refine r_iret hR dX8_on_81 ?_
                          first
                          | (obtain rfl : i = n := by omega
                             refine Qm_eqY (eqY_th M) hc ?_
                             rw [e]
                             first | rw [if_pos c62] | rw [if_neg c62])
                          | (omega)
                  · try simp (disch := omega) only [nI_ltI, nI_leI, nI_eq, bI_0, Decidable.not_not, lc_lt, lc_gt, lc_ge, lc_le, lc_eq, i64_toInt] at c46
                    try simp (disch := omega) only [cv_lt, cv_le, cv_eq, nI_toInt, cv_0] at c46
                    first
                    | omega
                    | refine r_aload0 hR dX8_on_49 ?_
                      refine r_cv0u hR kv_X8_113 (by decide) (t_X8_day hP wfi) (by first | decide | assumption | (simp only [gcnt_4, gcnt_1, gcnt_2, gcnt_3, gcnt_12, gcnt_13, gcnt_16]; omega)) rfl rfl (Nat.le_of_ble_eq_true rfl) dX8_on_50 ?_
                      refine r_iinc4 hR (nI 1) (by decide) (fun _ h => by first | (cases h; rfl) | exact absurd h (by simp)) dX8_on_53 ?_
                      try rw [nI_add]
                      refine r_goto hR 43 dX8_on_56 (by decide) ?_
                      refine r_mem (M2 := pm (thM M) (dayN (i + 1) (aS A))) (pm_pm (thM M) _ _ (by rw [dayN_3]; exact (dayN_3 (i + 1) (aS A)).symm)) ?_
                      exact ih (i + 1) (by omega)
              refine r_aload0 hR dX8_on_36 ?_
              refine r_cv0u hR kv_X8_124 (by decide) (t_X8_thinks) (by first | decide | assumption | (simp only [gcnt_4, gcnt_1, gcnt_2, gcnt_3, gcnt_12, gcnt_13, gcnt_16]; omega)) rfl rfl (Nat.le_of_ble_eq_true rfl) dX8_on_37 ?_
              refine r_iconst hR (nI 0) (by decide) dX8_on_40 ?_
              refine r_istore4 hR (fun _ h => by first | (cases h; rfl) | exact absurd h (by simp)) dX8_on_41 ?_
              refine r_mem (M2 := pm (thM M) (dayN 0 (aS A))) (pm_id (row_th h)).symm ?_
              exact L n 0 (by omega)
          · try simp (disch := omega) only [nI_ltI, nI_leI, nI_eq, bI_0, Decidable.not_not, lc_lt, lc_gt, lc_ge, lc_le, lc_eq, i64_toInt] at c26
            try simp (disch := omega) only [cv_lt, cv_le, cv_eq, nI_toInt, cv_0] at c26
            first
            | omega
            | refine r_aload0 hR dX8_on_29 ?_
              refine r_ldc hR ct_X8_41 dX8_on_30 ?_
              refine r_cv1v hR kv_X8_43 (by decide) (t_X8_findsC (n := 0) (by decide) (by decide)) (by first | decide | assumption | (simp only [gcnt_4, gcnt_1, gcnt_2, gcnt_3, gcnt_12, gcnt_13, gcnt_16]; omega)) rfl rfl (Nat.le_of_ble_eq_true rfl) dX8_on_32 ?_
              refine r_iret hR dX8_on_35 ?_
              refine Qm_fnd hc (by decide) ?_
              unfold oOn
              dsimp only [okI, okT]
              (repeat' split) <;> first | rfl | omega

set_option maxHeartbeats 4000000 in
set_option maxRecDepth 100000 in
theorem t_X8_comes {G : gG} {M : gM} {A : gA} {x y : Int32} (hc : mdlP M A) (hw : wfA A) : Ct G mX8_comes 6 [.ref (ad G 15 0), .int x, .int y] M (Qm M (oComes A x y)) := by
  obtain ⟨hwf, hday, hwk, hk2, hl, hT, hsh⟩ := id hw
  obtain ⟨w0, w1, w2, w3, wr, wt⟩ := id hwf
  obtain ⟨h, hKp, hkk, hlp, htp, hshp, hfp⟩ := id hc
  refine Ct.of (by decide +kernel) (k := 1) (ls0 := [some (.ref (ad G 15 0)), some (.int x), some (.int y), none]) rfl rfl (fun _ _ => trivial) ?_
  intro P hR
  refine r_aload0 hR dX8_comes_0 ?_
  refine r_iload1 hR dX8_comes_1 ?_
  refine r_cv1v hR kv_X8_97 (by decide) (t_X8_isThing h w3) (by first | decide | assumption | (simp only [gcnt_4, gcnt_1, gcnt_2, gcnt_3, gcnt_12, gcnt_13, gcnt_16]; omega)) rfl rfl (Nat.le_of_ble_eq_true rfl) dX8_comes_2 ?_
  refine r_if_eq hR 15 dX8_comes_5 (by decide) (fun c5 => ?_) (fun c5 => ?_)
  · try simp (disch := omega) only [nI_ltI, nI_leI, nI_eq, bI_0, Decidable.not_not, lc_lt, lc_gt, lc_ge, lc_le, lc_eq, i64_toInt] at c5
    try simp (disch := omega) only [cv_lt, cv_le, cv_eq, nI_toInt, cv_0] at c5
    first
    | omega
    | refine r_aload0 hR dX8_comes_15 ?_
      refine r_ldc hR ct_X8_41 dX8_comes_16 ?_
      refine r_cv1v hR kv_X8_43 (by decide) (t_X8_findsC (n := 0) (by decide) (by decide)) (by first | decide | assumption | (simp only [gcnt_4, gcnt_1, gcnt_2, gcnt_3, gcnt_12, gcnt_13, gcnt_16]; omega)) rfl rfl (Nat.le_of_ble_eq_true rfl) dX8_comes_18 ?_
      refine r_iret hR dX8_comes_21 ?_
      refine Qm_fnd hc (by decide) ?_
      unfold oComes
      dsimp only [okI, okT]
      (repeat' split) <;> first | rfl | omega
  · try simp (disch := omega) only [nI_ltI, nI_leI, nI_eq, bI_0, Decidable.not_not, lc_lt, lc_gt, lc_ge, lc_le, lc_eq, i64_toInt] at c5
    try simp (disch := omega) only [cv_lt, cv_le, cv_eq, nI_toInt, cv_0] at c5
    first
    | omega
    | refine r_iload2 hR dX8_comes_8 ?_
      refine r_cs1v hR ks_X8_66 (by decide) (t_X8_isCell) (Nat.le_of_ble_eq_true rfl) dX8_comes_9 ?_
      refine r_if_ne hR 22 dX8_comes_12 (by decide) (fun c12 => ?_) (fun c12 => ?_)
      · try simp (disch := omega) only [nI_ltI, nI_leI, nI_eq, bI_0, Decidable.not_not, lc_lt, lc_gt, lc_ge, lc_le, lc_eq, i64_toInt] at c12
        try simp (disch := omega) only [cv_lt, cv_le, cv_eq, nI_toInt, cv_0] at c12
        first
        | omega
        | obtain ⟨ce, hce, rfl⟩ := of_in (x := y) (N := 35) (by omega)
          obtain ⟨t, ht0, rfl⟩ := of_in (x := x) (N := aS A 3 - 1) (by omega)
          have htt : t < aS A 3 := by rw [nI_toInt (by omega)] at c5; omega
          have e : oComes A (nI t) (nI ce) = if firstN (fun d => thg (dayN d (aS A)) t 1 == ce) 61 0 = 61 then fnd A 3 else (nI (firstN (fun d => thg (dayN d (aS A)) t 1 == ce) 61 0), A) := by
            unfold oComes
            rw [if_pos (by simp (disch := omega) only [okI, okT, nI_toInt]; omega)]
            simp (disch := omega) only [uN_nI]
          have L : ∀ (j i : Nat), i + j = 61 → firstN (fun d => thg (dayN d (aS A)) t 1 == ce) j i = firstN (fun d => thg (dayN d (aS A)) t 1 == ce) 61 0 → P 28 [some (.ref (ad G 15 0)), some (.int (nI t)), some (.int (nI ce)), some (.int (nI i))] [] (pm (thM M) (dayN i (aS A))) := by
            intro j
            induction j with
            | zero =>
              intro i  hij hf
              have hP := rowP_pm (thM M) (dayN i (aS A))
              have wfi : wfS (dayN i (aS A)) := wf_dayN hwf (by omega)
              have e3 := dayN_3 i (aS A)
              refine r_iload3 hR dX8_comes_28 ?_
              refine r_bipush hR (nI 60) (by decide) dX8_comes_29 ?_
              refine r_icmp_gt hR 54 dX8_comes_31 (by decide) (fun c31 => ?_) (fun c31 => ?_)
              · try simp (disch := omega) only [nI_ltI, nI_leI, nI_eq, bI_0, Decidable.not_not, lc_lt, lc_gt, lc_ge, lc_le, lc_eq, i64_toInt] at c31
                try simp (disch := omega) only [cv_lt, cv_le, cv_eq, nI_toInt, cv_0] at c31
                first
                | omega
                | refine r_aload0 hR dX8_comes_54 ?_
                  refine r_cv0u hR kv_X8_127 (by decide) (t_X8_putsBack) (by first | decide | assumption | (simp only [gcnt_4, gcnt_1, gcnt_2, gcnt_3, gcnt_12, gcnt_13, gcnt_16]; omega)) rfl rfl (Nat.le_of_ble_eq_true rfl) dX8_comes_55 ?_
                  rw [bk_put _ _ (by omega), bk_th]
                  refine r_iload3 hR dX8_comes_58 ?_
                  refine r_bipush hR (nI 60) (by decide) dX8_comes_59 ?_
                  refine r_icmp_le hR 73 dX8_comes_61 (by decide) (fun c61 => ?_) (fun c61 => ?_)
                  · try simp (disch := omega) only [nI_ltI, nI_leI, nI_eq, bI_0, Decidable.not_not, lc_lt, lc_gt, lc_ge, lc_le, lc_eq, i64_toInt] at c61
                    try simp (disch := omega) only [cv_lt, cv_le, cv_eq, nI_toInt, cv_0] at c61
                    first
                    | omega
                    | refine r_iload3 hR dX8_comes_73 ?_
                      refine r_iret hR dX8_comes_74 ?_
                      first
                      | (omega)
                      | (obtain rfl : i = 61 := by omega
                         refine Qm_fndY (eqY_th M) hc (by decide) ?_
                         rw [e, ← hf]
                         exact if_pos rfl)
                  · try simp (disch := omega) only [nI_ltI, nI_leI, nI_eq, bI_0, Decidable.not_not, lc_lt, lc_gt, lc_ge, lc_le, lc_eq, i64_toInt] at c61
                    try simp (disch := omega) only [cv_lt, cv_le, cv_eq, nI_toInt, cv_0] at c61
                    first
                    | omega
                    | refine r_aload0 hR dX8_comes_64 ?_
                      refine r_ldc hR ct_X8_42 dX8_comes_65 ?_
                      refine r_cv1v hR kv_X8_43 (by decide) (t_X8_findsC (n := 3) (by decide) (by decide)) (by first | decide | assumption | (simp only [gcnt_4, gcnt_1, gcnt_2, gcnt_3, gcnt_12, gcnt_13, gcnt_16]; omega)) rfl rfl (Nat.le_of_ble_eq_true rfl) dX8_comes_67 ?_
                      refine r_goto hR 74 dX8_comes_70 (by decide) ?_
                      refine r_iret hR dX8_comes_74 ?_
                      first
                      | (omega)
                      | (obtain rfl : i = 61 := by omega
                         refine Qm_fndY (eqY_th M) hc (by decide) ?_
                         rw [e, ← hf]
                         exact if_pos rfl)
              · try simp (disch := omega) only [nI_ltI, nI_leI, nI_eq, bI_0, Decidable.not_not, lc_lt, lc_gt, lc_ge, lc_le, lc_eq, i64_toInt] at c31
                try simp (disch := omega) only [cv_lt, cv_le, cv_eq, nI_toInt, cv_0] at c31
                first
                | omega
                | refine r_aload0 hR dX8_comes_34 ?_
                  refine r_iload1 hR dX8_comes_35 ?_
                  refine r_iconst hR (nI 1) (by decide) dX8_comes_36 ?_
                  refine r_cv2v hR kv_X8_75 (by decide) (t_X8_it hP (by omega) (by decide) (by omega)) (by first | decide | assumption | (simp only [gcnt_4, gcnt_1, gcnt_2, gcnt_3, gcnt_12, gcnt_13, gcnt_16]; omega)) rfl rfl (Nat.le_of_ble_eq_true rfl) dX8_comes_37 ?_
                  have hcb := (day_b (d := i) hwf htt).1
                  refine r_iload2 hR dX8_comes_40 ?_
                  refine r_icmp_eq hR 54 dX8_comes_41 (by decide) (fun c41 => ?_) (fun c41 => ?_)
                  · try simp (disch := omega) only [nI_ltI, nI_leI, nI_eq, bI_0, Decidable.not_not, lc_lt, lc_gt, lc_ge, lc_le, lc_eq, i64_toInt] at c41
                    try simp (disch := omega) only [cv_lt, cv_le, cv_eq, nI_toInt, cv_0] at c41
                    first
                    | omega
                    | refine r_aload0 hR dX8_comes_54 ?_
                      refine r_cv0u hR kv_X8_127 (by decide) (t_X8_putsBack) (by first | decide | assumption | (simp only [gcnt_4, gcnt_1, gcnt_2, gcnt_3, gcnt_12, gcnt_13, gcnt_16]; omega)) rfl rfl (Nat.le_of_ble_eq_true rfl) dX8_comes_55 ?_
                      rw [bk_put _ _ (by omega), bk_th]
                      refine r_iload3 hR dX8_comes_58 ?_
                      refine r_bipush hR (nI 60) (by decide) dX8_comes_59 ?_
                      refine r_icmp_le hR 73 dX8_comes_61 (by decide) (fun c61 => ?_) (fun c61 => ?_)
                      · try simp (disch := omega) only [nI_ltI, nI_leI, nI_eq, bI_0, Decidable.not_not, lc_lt, lc_gt, lc_ge, lc_le, lc_eq, i64_toInt] at c61
                        try simp (disch := omega) only [cv_lt, cv_le, cv_eq, nI_toInt, cv_0] at c61
                        first
                        | omega
                        | refine r_iload3 hR dX8_comes_73 ?_
                          refine r_iret hR dX8_comes_74 ?_
                          first
                          | (omega)
                          | (obtain rfl : i = 61 := by omega
                             refine Qm_fndY (eqY_th M) hc (by decide) ?_
                             rw [e, ← hf]
                             exact if_pos rfl)
                      · try simp (disch := omega) only [nI_ltI, nI_leI, nI_eq, bI_0, Decidable.not_not, lc_lt, lc_gt, lc_ge, lc_le, lc_eq, i64_toInt] at c61
                        try simp (disch := omega) only [cv_lt, cv_le, cv_eq, nI_toInt, cv_0] at c61
                        first
                        | omega
                        | refine r_aload0 hR dX8_comes_64 ?_
                          refine r_ldc hR ct_X8_42 dX8_comes_65 ?_
                          refine r_cv1v hR kv_X8_43 (by decide) (t_X8_findsC (n := 3) (by decide) (by decide)) (by first | decide | assumption | (simp only [gcnt_4, gcnt_1, gcnt_2, gcnt_3, gcnt_12, gcnt_13, gcnt_16]; omega)) rfl rfl (Nat.le_of_ble_eq_true rfl) dX8_comes_67 ?_
                          refine r_goto hR 74 dX8_comes_70 (by decide) ?_
                          refine r_iret hR dX8_comes_74 ?_
                          first
                          | (omega)
                          | (obtain rfl : i = 61 := by omega
                             refine Qm_fndY (eqY_th M) hc (by decide) ?_
                             rw [e, ← hf]
                             exact if_pos rfl)
                  · try simp (disch := omega) only [nI_ltI, nI_leI, nI_eq, bI_0, Decidable.not_not, lc_lt, lc_gt, lc_ge, lc_le, lc_eq, i64_toInt] at c41
                    try simp (disch := omega) only [cv_lt, cv_le, cv_eq, nI_toInt, cv_0] at c41
                    first
                    | omega
                    | refine r_aload0 hR dX8_comes_44 ?_
                      refine r_cv0u hR kv_X8_113 (by decide) (t_X8_day hP wfi) (by first | decide | assumption | (simp only [gcnt_4, gcnt_1, gcnt_2, gcnt_3, gcnt_12, gcnt_13, gcnt_16]; omega)) rfl rfl (Nat.le_of_ble_eq_true rfl) dX8_comes_45 ?_
                      refine r_iinc3 hR (nI 1) (by decide) (fun _ h => by first | (cases h; rfl) | exact absurd h (by simp)) dX8_comes_48 ?_
                      try rw [nI_add]
                      refine r_goto hR 28 dX8_comes_51 (by decide) ?_
                      omega
            | succ j ih =>
              intro i  hij hf
              have hP := rowP_pm (thM M) (dayN i (aS A))
              have wfi : wfS (dayN i (aS A)) := wf_dayN hwf (by omega)
              have e3 := dayN_3 i (aS A)
              refine r_iload3 hR dX8_comes_28 ?_
              refine r_bipush hR (nI 60) (by decide) dX8_comes_29 ?_
              refine r_icmp_gt hR 54 dX8_comes_31 (by decide) (fun c31 => ?_) (fun c31 => ?_)
              · try simp (disch := omega) only [nI_ltI, nI_leI, nI_eq, bI_0, Decidable.not_not, lc_lt, lc_gt, lc_ge, lc_le, lc_eq, i64_toInt] at c31
                try simp (disch := omega) only [cv_lt, cv_le, cv_eq, nI_toInt, cv_0] at c31
                first
                | omega
                | refine r_aload0 hR dX8_comes_54 ?_
                  refine r_cv0u hR kv_X8_127 (by decide) (t_X8_putsBack) (by first | decide | assumption | (simp only [gcnt_4, gcnt_1, gcnt_2, gcnt_3, gcnt_12, gcnt_13, gcnt_16]; omega)) rfl rfl (Nat.le_of_ble_eq_true rfl) dX8_comes_55 ?_
                  rw [bk_put _ _ (by omega), bk_th]
                  refine r_iload3 hR dX8_comes_58 ?_
                  refine r_bipush hR (nI 60) (by decide) dX8_comes_59 ?_
                  refine r_icmp_le hR 73 dX8_comes_61 (by decide) (fun c61 => ?_) (fun c61 => ?_)
                  · try simp (disch := omega) only [nI_ltI, nI_leI, nI_eq, bI_0, Decidable.not_not, lc_lt, lc_gt, lc_ge, lc_le, lc_eq, i64_toInt] at c61
                    try simp (disch := omega) only [cv_lt, cv_le, cv_eq, nI_toInt, cv_0] at c61
                    first
                    | omega
                    | refine r_iload3 hR dX8_comes_73 ?_
                      refine r_iret hR dX8_comes_74 ?_
                      first
                      | (omega)
                      | (have ef : firstN (fun d => thg (dayN d (aS A)) t 1 == ce) (j + 1) i = i := by
                           unfold firstN
                           rw [if_pos (by simp [c41])]
                         refine Qm_eqY (eqY_th M) hc ?_
                         rw [e, ← hf, ef, if_neg (by omega)])
                  · try simp (disch := omega) only [nI_ltI, nI_leI, nI_eq, bI_0, Decidable.not_not, lc_lt, lc_gt, lc_ge, lc_le, lc_eq, i64_toInt] at c61
                    try simp (disch := omega) only [cv_lt, cv_le, cv_eq, nI_toInt, cv_0] at c61
                    first
                    | omega
                    | refine r_aload0 hR dX8_comes_64 ?_
                      refine r_ldc hR ct_X8_42 dX8_comes_65 ?_
                      refine r_cv1v hR kv_X8_43 (by decide) (t_X8_findsC (n := 3) (by decide) (by decide)) (by first | decide | assumption | (simp only [gcnt_4, gcnt_1, gcnt_2, gcnt_3, gcnt_12, gcnt_13, gcnt_16]; omega)) rfl rfl (Nat.le_of_ble_eq_true rfl) dX8_comes_67 ?_
                      refine r_goto hR 74 dX8_comes_70 (by decide) ?_
                      refine r_iret hR dX8_comes_74 ?_
                      first
                      | (omega)
                      | (have ef : firstN (fun d => thg (dayN d (aS A)) t 1 == ce) (j + 1) i = i := by
                           unfold firstN
                           rw [if_pos (by simp [c41])]
                         refine Qm_eqY (eqY_th M) hc ?_
                         rw [e, ← hf, ef, if_neg (by omega)])
              · try simp (disch := omega) only [nI_ltI, nI_leI, nI_eq, bI_0, Decidable.not_not, lc_lt, lc_gt, lc_ge, lc_le, lc_eq, i64_toInt] at c31
                try simp (disch := omega) only [cv_lt, cv_le, cv_eq, nI_toInt, cv_0] at c31
                first
                | omega
                | refine r_aload0 hR dX8_comes_34 ?_
                  refine r_iload1 hR dX8_comes_35 ?_
                  refine r_iconst hR (nI 1) (by decide) dX8_comes_36 ?_
                  refine r_cv2v hR kv_X8_75 (by decide) (t_X8_it hP (by omega) (by decide) (by omega)) (by first | decide | assumption | (simp only [gcnt_4, gcnt_1, gcnt_2, gcnt_3, gcnt_12, gcnt_13, gcnt_16]; omega)) rfl rfl (Nat.le_of_ble_eq_true rfl) dX8_comes_37 ?_
                  have hcb := (day_b (d := i) hwf htt).1
                  refine r_iload2 hR dX8_comes_40 ?_
                  refine r_icmp_eq hR 54 dX8_comes_41 (by decide) (fun c41 => ?_) (fun c41 => ?_)
                  · try simp (disch := omega) only [nI_ltI, nI_leI, nI_eq, bI_0, Decidable.not_not, lc_lt, lc_gt, lc_ge, lc_le, lc_eq, i64_toInt] at c41
                    try simp (disch := omega) only [cv_lt, cv_le, cv_eq, nI_toInt, cv_0] at c41
                    first
                    | omega
                    | refine r_aload0 hR dX8_comes_54 ?_
                      refine r_cv0u hR kv_X8_127 (by decide) (t_X8_putsBack) (by first | decide | assumption | (simp only [gcnt_4, gcnt_1, gcnt_2, gcnt_3, gcnt_12, gcnt_13, gcnt_16]; omega)) rfl rfl (Nat.le_of_ble_eq_true rfl) dX8_comes_55 ?_
                      rw [bk_put _ _ (by omega), bk_th]
                      refine r_iload3 hR dX8_comes_58 ?_
                      refine r_bipush hR (nI 60) (by decide) dX8_comes_59 ?_
                      refine r_icmp_le hR 73 dX8_comes_61 (by decide) (fun c61 => ?_) (fun c61 => ?_)
                      · try simp (disch := omega) only [nI_ltI, nI_leI, nI_eq, bI_0, Decidable.not_not, lc_lt, lc_gt, lc_ge, lc_le, lc_eq, i64_toInt] at c61
                        try simp (disch := omega) only [cv_lt, cv_le, cv_eq, nI_toInt, cv_0] at c61
                        first
                        | omega
                        | refine r_iload3 hR dX8_comes_73 ?_
                          refine r_iret hR dX8_comes_74 ?_
                          first
                          | (omega)
                          | (have ef : firstN (fun d => thg (dayN d (aS A)) t 1 == ce) (j + 1) i = i := by
                               unfold firstN
                               rw [if_pos (by simp [c41])]
                             refine Qm_eqY (eqY_th M) hc ?_
                             rw [e, ← hf, ef, if_neg (by omega)])
                      · try simp (disch := omega) only [nI_ltI, nI_leI, nI_eq, bI_0, Decidable.not_not, lc_lt, lc_gt, lc_ge, lc_le, lc_eq, i64_toInt] at c61
                        try simp (disch := omega) only [cv_lt, cv_le, cv_eq, nI_toInt, cv_0] at c61
                        first
                        | omega
                        | refine r_aload0 hR dX8_comes_64 ?_
                          refine r_ldc hR ct_X8_42 dX8_comes_65 ?_
                          refine r_cv1v hR kv_X8_43 (by decide) (t_X8_findsC (n := 3) (by decide) (by decide)) (by first | decide | assumption | (simp only [gcnt_4, gcnt_1, gcnt_2, gcnt_3, gcnt_12, gcnt_13, gcnt_16]; omega)) rfl rfl (Nat.le_of_ble_eq_true rfl) dX8_comes_67 ?_
                          refine r_goto hR 74 dX8_comes_70 (by decide) ?_
                          refine r_iret hR dX8_comes_74 ?_
                          first
                          | (omega)
                          | (have ef : firstN (fun d => thg (dayN d (aS A)) t 1 == ce) (j + 1) i = i := by
                               unfold firstN
                               rw [if_pos (by simp [c41])]
                             refine Qm_eqY (eqY_th M) hc ?_
                             rw [e, ← hf, ef, if_neg (by omega)])
                  · try simp (disch := omega) only [nI_ltI, nI_leI, nI_eq, bI_0, Decidable.not_not, lc_lt, lc_gt, lc_ge, lc_le, lc_eq, i64_toInt] at c41
                    try simp (disch := omega) only [cv_lt, cv_le, cv_eq, nI_toInt, cv_0] at c41
                    first
                    | omega
                    | refine r_aload0 hR dX8_comes_44 ?_
                      refine r_cv0u hR kv_X8_113 (by decide) (t_X8_day hP wfi) (by first | decide | assumption | (simp only [gcnt_4, gcnt_1, gcnt_2, gcnt_3, gcnt_12, gcnt_13, gcnt_16]; omega)) rfl rfl (Nat.le_of_ble_eq_true rfl) dX8_comes_45 ?_
                      refine r_iinc3 hR (nI 1) (by decide) (fun _ h => by first | (cases h; rfl) | exact absurd h (by simp)) dX8_comes_48 ?_
                      try rw [nI_add]
                      refine r_goto hR 28 dX8_comes_51 (by decide) ?_
                      have ef : firstN (fun d => thg (dayN d (aS A)) t 1 == ce) (j + 1) i = firstN (fun d => thg (dayN d (aS A)) t 1 == ce) j (i + 1) := by
                        conv => lhs; unfold firstN
                        rw [if_neg (by simp [c41])]
                      refine r_mem (M2 := pm (thM M) (dayN (i + 1) (aS A))) (pm_pm (thM M) _ _ (by rw [dayN_3]; exact (dayN_3 (i + 1) (aS A)).symm)) ?_
                      exact ih (i + 1) (by omega) (by rw [← ef]; exact hf)
          refine r_aload0 hR dX8_comes_22 ?_
          refine r_cv0u hR kv_X8_124 (by decide) (t_X8_thinks) (by first | decide | assumption | (simp only [gcnt_4, gcnt_1, gcnt_2, gcnt_3, gcnt_12, gcnt_13, gcnt_16]; omega)) rfl rfl (Nat.le_of_ble_eq_true rfl) dX8_comes_23 ?_
          refine r_iconst hR (nI 0) (by decide) dX8_comes_26 ?_
          refine r_istore3 hR (fun _ h => by first | (cases h; rfl) | exact absurd h (by simp)) dX8_comes_27 ?_
          refine r_mem (M2 := pm (thM M) (dayN 0 (aS A))) (pm_id (row_th h)).symm ?_
          exact L 61 0 rfl rfl
      · try simp (disch := omega) only [nI_ltI, nI_leI, nI_eq, bI_0, Decidable.not_not, lc_lt, lc_gt, lc_ge, lc_le, lc_eq, i64_toInt] at c12
        try simp (disch := omega) only [cv_lt, cv_le, cv_eq, nI_toInt, cv_0] at c12
        first
        | omega
        | refine r_aload0 hR dX8_comes_15 ?_
          refine r_ldc hR ct_X8_41 dX8_comes_16 ?_
          refine r_cv1v hR kv_X8_43 (by decide) (t_X8_findsC (n := 0) (by decide) (by decide)) (by first | decide | assumption | (simp only [gcnt_4, gcnt_1, gcnt_2, gcnt_3, gcnt_12, gcnt_13, gcnt_16]; omega)) rfl rfl (Nat.le_of_ble_eq_true rfl) dX8_comes_18 ?_
          refine r_iret hR dX8_comes_21 ?_
          refine Qm_fnd hc (by decide) ?_
          unfold oComes
          dsimp only [okI, okT]
          (repeat' split) <;> first | rfl | omega

set_option maxHeartbeats 4000000 in
set_option maxRecDepth 100000 in
theorem t_X8_meet {G : gG} {M : gM} {A : gA} {x y : Int32} (hc : mdlP M A) (hw : wfA A) : Ct G mX8_meet 6 [.ref (ad G 15 0), .int x, .int y] M (Qm M (oMeet A x y)) := by
  obtain ⟨hwf, hday, hwk, hk2, hl, hT, hsh⟩ := id hw
  obtain ⟨w0, w1, w2, w3, wr, wt⟩ := id hwf
  obtain ⟨h, hKp, hkk, hlp, htp, hshp, hfp⟩ := id hc
  refine Ct.of (by decide +kernel) (k := 1) (ls0 := [some (.ref (ad G 15 0)), some (.int x), some (.int y), none]) rfl rfl (fun _ _ => trivial) ?_
  intro P hR
  refine r_aload0 hR dX8_meet_0 ?_
  refine r_iload1 hR dX8_meet_1 ?_
  refine r_cv1v hR kv_X8_97 (by decide) (t_X8_isThing h w3) (by first | decide | assumption | (simp only [gcnt_4, gcnt_1, gcnt_2, gcnt_3, gcnt_12, gcnt_13, gcnt_16]; omega)) rfl rfl (Nat.le_of_ble_eq_true rfl) dX8_meet_2 ?_
  refine r_if_eq hR 21 dX8_meet_5 (by decide) (fun c5 => ?_) (fun c5 => ?_)
  · try simp (disch := omega) only [nI_ltI, nI_leI, nI_eq, bI_0, Decidable.not_not, lc_lt, lc_gt, lc_ge, lc_le, lc_eq, i64_toInt] at c5
    try simp (disch := omega) only [cv_lt, cv_le, cv_eq, nI_toInt, cv_0] at c5
    first
    | omega
    | refine r_aload0 hR dX8_meet_21 ?_
      refine r_ldc hR ct_X8_41 dX8_meet_22 ?_
      refine r_cv1v hR kv_X8_43 (by decide) (t_X8_findsC (n := 0) (by decide) (by decide)) (by first | decide | assumption | (simp only [gcnt_4, gcnt_1, gcnt_2, gcnt_3, gcnt_12, gcnt_13, gcnt_16]; omega)) rfl rfl (Nat.le_of_ble_eq_true rfl) dX8_meet_24 ?_
      refine r_iret hR dX8_meet_27 ?_
      refine Qm_fnd hc (by decide) ?_
      unfold oMeet
      refine if_neg ?_
      rintro ⟨g1, g2, g3⟩
      dsimp only [okI, okT] at g1 g2
      simp only [cv_eq] at g3
      omega
  · try simp (disch := omega) only [nI_ltI, nI_leI, nI_eq, bI_0, Decidable.not_not, lc_lt, lc_gt, lc_ge, lc_le, lc_eq, i64_toInt] at c5
    try simp (disch := omega) only [cv_lt, cv_le, cv_eq, nI_toInt, cv_0] at c5
    first
    | omega
    | refine r_aload0 hR dX8_meet_8 ?_
      refine r_iload2 hR dX8_meet_9 ?_
      refine r_cv1v hR kv_X8_97 (by decide) (t_X8_isThing h w3) (by first | decide | assumption | (simp only [gcnt_4, gcnt_1, gcnt_2, gcnt_3, gcnt_12, gcnt_13, gcnt_16]; omega)) rfl rfl (Nat.le_of_ble_eq_true rfl) dX8_meet_10 ?_
      refine r_if_eq hR 21 dX8_meet_13 (by decide) (fun c13 => ?_) (fun c13 => ?_)
      · try simp (disch := omega) only [nI_ltI, nI_leI, nI_eq, bI_0, Decidable.not_not, lc_lt, lc_gt, lc_ge, lc_le, lc_eq, i64_toInt] at c13
        try simp (disch := omega) only [cv_lt, cv_le, cv_eq, nI_toInt, cv_0] at c13
        first
        | omega
        | refine r_aload0 hR dX8_meet_21 ?_
          refine r_ldc hR ct_X8_41 dX8_meet_22 ?_
          refine r_cv1v hR kv_X8_43 (by decide) (t_X8_findsC (n := 0) (by decide) (by decide)) (by first | decide | assumption | (simp only [gcnt_4, gcnt_1, gcnt_2, gcnt_3, gcnt_12, gcnt_13, gcnt_16]; omega)) rfl rfl (Nat.le_of_ble_eq_true rfl) dX8_meet_24 ?_
          refine r_iret hR dX8_meet_27 ?_
          refine Qm_fnd hc (by decide) ?_
          unfold oMeet
          refine if_neg ?_
          rintro ⟨g1, g2, g3⟩
          dsimp only [okI, okT] at g1 g2
          simp only [cv_eq] at g3
          omega
      · try simp (disch := omega) only [nI_ltI, nI_leI, nI_eq, bI_0, Decidable.not_not, lc_lt, lc_gt, lc_ge, lc_le, lc_eq, i64_toInt] at c13
        try simp (disch := omega) only [cv_lt, cv_le, cv_eq, nI_toInt, cv_0] at c13
        first
        | omega
        | refine r_iload1 hR dX8_meet_16 ?_
          refine r_iload2 hR dX8_meet_17 ?_
          refine r_icmp_ne hR 28 dX8_meet_18 (by decide) (fun c18 => ?_) (fun c18 => ?_)
          · try simp (disch := omega) only [nI_ltI, nI_leI, nI_eq, bI_0, Decidable.not_not, lc_lt, lc_gt, lc_ge, lc_le, lc_eq, i64_toInt] at c18
            try simp (disch := omega) only [cv_lt, cv_le, cv_eq, nI_toInt, cv_0] at c18
            first
            | omega
            | obtain ⟨t, ht0, rfl⟩ := of_in (x := x) (N := aS A 3 - 1) (by omega)
              have htt : t < aS A 3 := by rw [nI_toInt (by omega)] at c5; omega
              obtain ⟨u, hu0, rfl⟩ := of_in (x := y) (N := aS A 3 - 1) (by omega)
              have huu : u < aS A 3 := by rw [nI_toInt (by omega)] at c13; omega
              simp (disch := omega) only [nI_toInt] at c18
              have e : oMeet A (nI t) (nI u) = if firstN (fun d => thg (dayN d (aS A)) t 1 == thg (dayN d (aS A)) u 1) 61 0 = 61 then fnd A 3 else (nI (firstN (fun d => thg (dayN d (aS A)) t 1 == thg (dayN d (aS A)) u 1) 61 0), A) := by
                unfold oMeet
                rw [if_pos (by simp (disch := omega) only [okI, okT, nI_toInt, nI_eq]; omega)]
                simp (disch := omega) only [uN_nI]
              have L : ∀ (j i : Nat), i + j = 61 → firstN (fun d => thg (dayN d (aS A)) t 1 == thg (dayN d (aS A)) u 1) j i = firstN (fun d => thg (dayN d (aS A)) t 1 == thg (dayN d (aS A)) u 1) 61 0 → P 34 [some (.ref (ad G 15 0)), some (.int (nI t)), some (.int (nI u)), some (.int (nI i))] [] (pm (thM M) (dayN i (aS A))) := by
                intro j
                induction j with
                | zero =>
                  intro i  hij hf
                  have hP := rowP_pm (thM M) (dayN i (aS A))
                  have wfi : wfS (dayN i (aS A)) := wf_dayN hwf (by omega)
                  have e3 := dayN_3 i (aS A)
                  refine r_iload3 hR dX8_meet_34 ?_
                  refine r_bipush hR (nI 60) (by decide) dX8_meet_35 ?_
                  refine r_icmp_gt hR 65 dX8_meet_37 (by decide) (fun c37 => ?_) (fun c37 => ?_)
                  · try simp (disch := omega) only [nI_ltI, nI_leI, nI_eq, bI_0, Decidable.not_not, lc_lt, lc_gt, lc_ge, lc_le, lc_eq, i64_toInt] at c37
                    try simp (disch := omega) only [cv_lt, cv_le, cv_eq, nI_toInt, cv_0] at c37
                    first
                    | omega
                    | refine r_aload0 hR dX8_meet_65 ?_
                      refine r_cv0u hR kv_X8_127 (by decide) (t_X8_putsBack) (by first | decide | assumption | (simp only [gcnt_4, gcnt_1, gcnt_2, gcnt_3, gcnt_12, gcnt_13, gcnt_16]; omega)) rfl rfl (Nat.le_of_ble_eq_true rfl) dX8_meet_66 ?_
                      rw [bk_put _ _ (by omega), bk_th]
                      refine r_iload3 hR dX8_meet_69 ?_
                      refine r_bipush hR (nI 60) (by decide) dX8_meet_70 ?_
                      refine r_icmp_le hR 84 dX8_meet_72 (by decide) (fun c72 => ?_) (fun c72 => ?_)
                      · try simp (disch := omega) only [nI_ltI, nI_leI, nI_eq, bI_0, Decidable.not_not, lc_lt, lc_gt, lc_ge, lc_le, lc_eq, i64_toInt] at c72
                        try simp (disch := omega) only [cv_lt, cv_le, cv_eq, nI_toInt, cv_0] at c72
                        first
                        | omega
                        | refine r_iload3 hR dX8_meet_84 ?_
                          refine r_iret hR dX8_meet_85 ?_
                          first
                          | (omega)
                          | (obtain rfl : i = 61 := by omega
                             refine Qm_fndY (eqY_th M) hc (by decide) ?_
                             rw [e, ← hf]
                             exact if_pos rfl)
                      · try simp (disch := omega) only [nI_ltI, nI_leI, nI_eq, bI_0, Decidable.not_not, lc_lt, lc_gt, lc_ge, lc_le, lc_eq, i64_toInt] at c72
                        try simp (disch := omega) only [cv_lt, cv_le, cv_eq, nI_toInt, cv_0] at c72
                        first
                        | omega
                        | refine r_aload0 hR dX8_meet_75 ?_
                          refine r_ldc hR ct_X8_42 dX8_meet_76 ?_
                          refine r_cv1v hR kv_X8_43 (by decide) (t_X8_findsC (n := 3) (by decide) (by decide)) (by first | decide | assumption | (simp only [gcnt_4, gcnt_1, gcnt_2, gcnt_3, gcnt_12, gcnt_13, gcnt_16]; omega)) rfl rfl (Nat.le_of_ble_eq_true rfl) dX8_meet_78 ?_
                          refine r_goto hR 85 dX8_meet_81 (by decide) ?_
                          refine r_iret hR dX8_meet_85 ?_
                          first
                          | (omega)
                          | (obtain rfl : i = 61 := by omega
                             refine Qm_fndY (eqY_th M) hc (by decide) ?_
                             rw [e, ← hf]
                             exact if_pos rfl)
                  · try simp (disch := omega) only [nI_ltI, nI_leI, nI_eq, bI_0, Decidable.not_not, lc_lt, lc_gt, lc_ge, lc_le, lc_eq, i64_toInt] at c37
                    try simp (disch := omega) only [cv_lt, cv_le, cv_eq, nI_toInt, cv_0] at c37
                    first
                    | omega
                    | refine r_aload0 hR dX8_meet_40 ?_
                      refine r_iload1 hR dX8_meet_41 ?_
                      refine r_iconst hR (nI 1) (by decide) dX8_meet_42 ?_
                      refine r_cv2v hR kv_X8_75 (by decide) (t_X8_it hP (by omega) (by decide) (by omega)) (by first | decide | assumption | (simp only [gcnt_4, gcnt_1, gcnt_2, gcnt_3, gcnt_12, gcnt_13, gcnt_16]; omega)) rfl rfl (Nat.le_of_ble_eq_true rfl) dX8_meet_43 ?_
                      have hcb := (day_b (d := i) hwf htt).1
                      have hcu := (day_b (d := i) hwf huu).1
                      refine r_aload0 hR dX8_meet_46 ?_
                      refine r_iload2 hR dX8_meet_47 ?_
                      refine r_iconst hR (nI 1) (by decide) dX8_meet_48 ?_
                      refine r_cv2v hR kv_X8_75 (by decide) (t_X8_it hP (by omega) (by decide) (by omega)) (by first | decide | assumption | (simp only [gcnt_4, gcnt_1, gcnt_2, gcnt_3, gcnt_12, gcnt_13, gcnt_16]; omega)) rfl rfl (Nat.le_of_ble_eq_true rfl) dX8_meet_49 ?_
                      refine r_icmp_eq hR 65 dX8_meet_52 (by decide) (fun c52 => ?_) (fun c52 => ?_)
                      · try simp (disch := omega) only [nI_ltI, nI_leI, nI_eq, bI_0, Decidable.not_not, lc_lt, lc_gt, lc_ge, lc_le, lc_eq, i64_toInt] at c52
                        try simp (disch := omega) only [cv_lt, cv_le, cv_eq, nI_toInt, cv_0] at c52
                        first
                        | omega
                        | refine r_aload0 hR dX8_meet_65 ?_
                          refine r_cv0u hR kv_X8_127 (by decide) (t_X8_putsBack) (by first | decide | assumption | (simp only [gcnt_4, gcnt_1, gcnt_2, gcnt_3, gcnt_12, gcnt_13, gcnt_16]; omega)) rfl rfl (Nat.le_of_ble_eq_true rfl) dX8_meet_66 ?_
                          rw [bk_put _ _ (by omega), bk_th]
                          refine r_iload3 hR dX8_meet_69 ?_
                          refine r_bipush hR (nI 60) (by decide) dX8_meet_70 ?_
                          refine r_icmp_le hR 84 dX8_meet_72 (by decide) (fun c72 => ?_) (fun c72 => ?_)
                          · try simp (disch := omega) only [nI_ltI, nI_leI, nI_eq, bI_0, Decidable.not_not, lc_lt, lc_gt, lc_ge, lc_le, lc_eq, i64_toInt] at c72
                            try simp (disch := omega) only [cv_lt, cv_le, cv_eq, nI_toInt, cv_0] at c72
                            first
                            | omega
                            | refine r_iload3 hR dX8_meet_84 ?_
                              refine r_iret hR dX8_meet_85 ?_
                              first
                              | (omega)
                              | (obtain rfl : i = 61 := by omega
                                 refine Qm_fndY (eqY_th M) hc (by decide) ?_
                                 rw [e, ← hf]
                                 exact if_pos rfl)
                          · try simp (disch := omega) only [nI_ltI, nI_leI, nI_eq, bI_0, Decidable.not_not, lc_lt, lc_gt, lc_ge, lc_le, lc_eq, i64_toInt] at c72
                            try simp (disch := omega) only [cv_lt, cv_le, cv_eq, nI_toInt, cv_0] at c72
                            first
                            | omega
                            | refine r_aload0 hR dX8_meet_75 ?_
                              refine r_ldc hR ct_X8_42 dX8_meet_76 ?_
                              refine r_cv1v hR kv_X8_43 (by decide) (t_X8_findsC (n := 3) (by decide) (by decide)) (by first | decide | assumption | (simp only [gcnt_4, gcnt_1, gcnt_2, gcnt_3, gcnt_12, gcnt_13, gcnt_16]; omega)) rfl rfl (Nat.le_of_ble_eq_true rfl) dX8_meet_78 ?_
                              refine r_goto hR 85 dX8_meet_81 (by decide) ?_
                              refine r_iret hR dX8_meet_85 ?_
                              first
                              | (omega)
                              | (obtain rfl : i = 61 := by omega
                                 refine Qm_fndY (eqY_th M) hc (by decide) ?_
                                 rw [e, ← hf]
                                 exact if_pos rfl)
                      · try simp (disch := omega) only [nI_ltI, nI_leI, nI_eq, bI_0, Decidable.not_not, lc_lt, lc_gt, lc_ge, lc_le, lc_eq, i64_toInt] at c52
                        try simp (disch := omega) only [cv_lt, cv_le, cv_eq, nI_toInt, cv_0] at c52
                        first
                        | omega
                        | refine r_aload0 hR dX8_meet_55 ?_
                          refine r_cv0u hR kv_X8_113 (by decide) (t_X8_day hP wfi) (by first | decide | assumption | (simp only [gcnt_4, gcnt_1, gcnt_2, gcnt_3, gcnt_12, gcnt_13, gcnt_16]; omega)) rfl rfl (Nat.le_of_ble_eq_true rfl) dX8_meet_56 ?_
                          refine r_iinc3 hR (nI 1) (by decide) (fun _ h => by first | (cases h; rfl) | exact absurd h (by simp)) dX8_meet_59 ?_
                          try rw [nI_add]
                          refine r_goto hR 34 dX8_meet_62 (by decide) ?_
                          omega
                | succ j ih =>
                  intro i  hij hf
                  have hP := rowP_pm (thM M) (dayN i (aS A))
                  have wfi : wfS (dayN i (aS A)) := wf_dayN hwf (by omega)
                  have e3 := dayN_3 i (aS A)
                  refine r_iload3 hR dX8_meet_34 ?_
                  refine r_bipush hR (nI 60) (by decide) dX8_meet_35 ?_
                  refine r_icmp_gt hR 65 dX8_meet_37 (by decide) (fun c37 => ?_) (fun c37 => ?_)
                  · try simp (disch := omega) only [nI_ltI, nI_leI, nI_eq, bI_0, Decidable.not_not, lc_lt, lc_gt, lc_ge, lc_le, lc_eq, i64_toInt] at c37
                    try simp (disch := omega) only [cv_lt, cv_le, cv_eq, nI_toInt, cv_0] at c37
                    first
                    | omega
                    | refine r_aload0 hR dX8_meet_65 ?_
                      refine r_cv0u hR kv_X8_127 (by decide) (t_X8_putsBack) (by first | decide | assumption | (simp only [gcnt_4, gcnt_1, gcnt_2, gcnt_3, gcnt_12, gcnt_13, gcnt_16]; omega)) rfl rfl (Nat.le_of_ble_eq_true rfl) dX8_meet_66 ?_
                      rw [bk_put _ _ (by omega), bk_th]
                      refine r_iload3 hR dX8_meet_69 ?_
                      refine r_bipush hR (nI 60) (by decide) dX8_meet_70 ?_
                      refine r_icmp_le hR 84 dX8_meet_72 (by decide) (fun c72 => ?_) (fun c72 => ?_)
                      · try simp (disch := omega) only [nI_ltI, nI_leI, nI_eq, bI_0, Decidable.not_not, lc_lt, lc_gt, lc_ge, lc_le, lc_eq, i64_toInt] at c72
                        try simp (disch := omega) only [cv_lt, cv_le, cv_eq, nI_toInt, cv_0] at c72
                        first
                        | omega
                        | refine r_iload3 hR dX8_meet_84 ?_
                          refine r_iret hR dX8_meet_85 ?_
                          first
                          | (omega)
                          | (have ef : firstN (fun d => thg (dayN d (aS A)) t 1 == thg (dayN d (aS A)) u 1) (j + 1) i = i := by
                               unfold firstN
                               rw [if_pos (by simp [c52])]
                             refine Qm_eqY (eqY_th M) hc ?_
                             rw [e, ← hf, ef, if_neg (by omega)])
                      · try simp (disch := omega) only [nI_ltI, nI_leI, nI_eq, bI_0, Decidable.not_not, lc_lt, lc_gt, lc_ge, lc_le, lc_eq, i64_toInt] at c72
                        try simp (disch := omega) only [cv_lt, cv_le, cv_eq, nI_toInt, cv_0] at c72
                        first
                        | omega
                        | refine r_aload0 hR dX8_meet_75 ?_
                          refine r_ldc hR ct_X8_42 dX8_meet_76 ?_
                          refine r_cv1v hR kv_X8_43 (by decide) (t_X8_findsC (n := 3) (by decide) (by decide)) (by first | decide | assumption | (simp only [gcnt_4, gcnt_1, gcnt_2, gcnt_3, gcnt_12, gcnt_13, gcnt_16]; omega)) rfl rfl (Nat.le_of_ble_eq_true rfl) dX8_meet_78 ?_
                          refine r_goto hR 85 dX8_meet_81 (by decide) ?_
                          refine r_iret hR dX8_meet_85 ?_
                          first
                          | (omega)
                          | (have ef : firstN (fun d => thg (dayN d (aS A)) t 1 == thg (dayN d (aS A)) u 1) (j + 1) i = i := by
                               unfold firstN
                               rw [if_pos (by simp [c52])]
                             refine Qm_eqY (eqY_th M) hc ?_
                             rw [e, ← hf, ef, if_neg (by omega)])
                  · try simp (disch := omega) only [nI_ltI, nI_leI, nI_eq, bI_0, Decidable.not_not, lc_lt, lc_gt, lc_ge, lc_le, lc_eq, i64_toInt] at c37
                    try simp (disch := omega) only [cv_lt, cv_le, cv_eq, nI_toInt, cv_0] at c37
                    first
                    | omega
                    | refine r_aload0 hR dX8_meet_40 ?_
                      refine r_iload1 hR dX8_meet_41 ?_
                      refine r_iconst hR (nI 1) (by decide) dX8_meet_42 ?_
                      refine r_cv2v hR kv_X8_75 (by decide) (t_X8_it hP (by omega) (by decide) (by omega)) (by first | decide | assumption | (simp only [gcnt_4, gcnt_1, gcnt_2, gcnt_3, gcnt_12, gcnt_13, gcnt_16]; omega)) rfl rfl (Nat.le_of_ble_eq_true rfl) dX8_meet_43 ?_
                      have hcb := (day_b (d := i) hwf htt).1
                      have hcu := (day_b (d := i) hwf huu).1
                      refine r_aload0 hR dX8_meet_46 ?_
                      refine r_iload2 hR dX8_meet_47 ?_
                      refine r_iconst hR (nI 1) (by decide) dX8_meet_48 ?_
                      refine r_cv2v hR kv_X8_75 (by decide) (t_X8_it hP (by omega) (by decide) (by omega)) (by first | decide | assumption | (simp only [gcnt_4, gcnt_1, gcnt_2, gcnt_3, gcnt_12, gcnt_13, gcnt_16]; omega)) rfl rfl (Nat.le_of_ble_eq_true rfl) dX8_meet_49 ?_
                      refine r_icmp_eq hR 65 dX8_meet_52 (by decide) (fun c52 => ?_) (fun c52 => ?_)
                      · try simp (disch := omega) only [nI_ltI, nI_leI, nI_eq, bI_0, Decidable.not_not, lc_lt, lc_gt, lc_ge, lc_le, lc_eq, i64_toInt] at c52
                        try simp (disch := omega) only [cv_lt, cv_le, cv_eq, nI_toInt, cv_0] at c52
                        first
                        | omega
                        | refine r_aload0 hR dX8_meet_65 ?_
                          refine r_cv0u hR kv_X8_127 (by decide) (t_X8_putsBack) (by first | decide | assumption | (simp only [gcnt_4, gcnt_1, gcnt_2, gcnt_3, gcnt_12, gcnt_13, gcnt_16]; omega)) rfl rfl (Nat.le_of_ble_eq_true rfl) dX8_meet_66 ?_
                          rw [bk_put _ _ (by omega), bk_th]
                          refine r_iload3 hR dX8_meet_69 ?_
                          refine r_bipush hR (nI 60) (by decide) dX8_meet_70 ?_
                          refine r_icmp_le hR 84 dX8_meet_72 (by decide) (fun c72 => ?_) (fun c72 => ?_)
                          · try simp (disch := omega) only [nI_ltI, nI_leI, nI_eq, bI_0, Decidable.not_not, lc_lt, lc_gt, lc_ge, lc_le, lc_eq, i64_toInt] at c72
                            try simp (disch := omega) only [cv_lt, cv_le, cv_eq, nI_toInt, cv_0] at c72
                            first
                            | omega
                            | refine r_iload3 hR dX8_meet_84 ?_
                              refine r_iret hR dX8_meet_85 ?_
                              first
                              | (omega)
                              | (have ef : firstN (fun d => thg (dayN d (aS A)) t 1 == thg (dayN d (aS A)) u 1) (j + 1) i = i := by
                                   unfold firstN
                                   rw [if_pos (by simp [c52])]
                                 refine Qm_eqY (eqY_th M) hc ?_
                                 rw [e, ← hf, ef, if_neg (by omega)])
                          · try simp (disch := omega) only [nI_ltI, nI_leI, nI_eq, bI_0, Decidable.not_not, lc_lt, lc_gt, lc_ge, lc_le, lc_eq, i64_toInt] at c72
                            try simp (disch := omega) only [cv_lt, cv_le, cv_eq, nI_toInt, cv_0] at c72
                            first
                            | omega
                            | refine r_aload0 hR dX8_meet_75 ?_
                              refine r_ldc hR ct_X8_42 dX8_meet_76 ?_
                              refine r_cv1v hR kv_X8_43 (by decide) (t_X8_findsC (n := 3) (by decide) (by decide)) (by first | decide | assumption | (simp only [gcnt_4, gcnt_1, gcnt_2, gcnt_3, gcnt_12, gcnt_13, gcnt_16]; omega)) rfl rfl (Nat.le_of_ble_eq_true rfl) dX8_meet_78 ?_
                              refine r_goto hR 85 dX8_meet_81 (by decide) ?_
                              refine r_iret hR dX8_meet_85 ?_
                              first
                              | (omega)
                              | (have ef : firstN (fun d => thg (dayN d (aS A)) t 1 == thg (dayN d (aS A)) u 1) (j + 1) i = i := by
                                   unfold firstN
                                   rw [if_pos (by simp [c52])]
                                 refine Qm_eqY (eqY_th M) hc ?_
                                 rw [e, ← hf, ef, if_neg (by omega)])
                      · try simp (disch := omega) only [nI_ltI, nI_leI, nI_eq, bI_0, Decidable.not_not, lc_lt, lc_gt, lc_ge, lc_le, lc_eq, i64_toInt] at c52
                        try simp (disch := omega) only [cv_lt, cv_le, cv_eq, nI_toInt, cv_0] at c52
                        first
                        | omega
                        | refine r_aload0 hR dX8_meet_55 ?_
                          refine r_cv0u hR kv_X8_113 (by decide) (t_X8_day hP wfi) (by first | decide | assumption | (simp only [gcnt_4, gcnt_1, gcnt_2, gcnt_3, gcnt_12, gcnt_13, gcnt_16]; omega)) rfl rfl (Nat.le_of_ble_eq_true rfl) dX8_meet_56 ?_
                          refine r_iinc3 hR (nI 1) (by decide) (fun _ h => by first | (cases h; rfl) | exact absurd h (by simp)) dX8_meet_59 ?_
                          try rw [nI_add]
                          refine r_goto hR 34 dX8_meet_62 (by decide) ?_
                          have ef : firstN (fun d => thg (dayN d (aS A)) t 1 == thg (dayN d (aS A)) u 1) (j + 1) i = firstN (fun d => thg (dayN d (aS A)) t 1 == thg (dayN d (aS A)) u 1) j (i + 1) := by
                            conv => lhs; unfold firstN
                            rw [if_neg (by simp [c52])]
                          refine r_mem (M2 := pm (thM M) (dayN (i + 1) (aS A))) (pm_pm (thM M) _ _ (by rw [dayN_3]; exact (dayN_3 (i + 1) (aS A)).symm)) ?_
                          exact ih (i + 1) (by omega) (by rw [← ef]; exact hf)
              refine r_aload0 hR dX8_meet_28 ?_
              refine r_cv0u hR kv_X8_124 (by decide) (t_X8_thinks) (by first | decide | assumption | (simp only [gcnt_4, gcnt_1, gcnt_2, gcnt_3, gcnt_12, gcnt_13, gcnt_16]; omega)) rfl rfl (Nat.le_of_ble_eq_true rfl) dX8_meet_29 ?_
              refine r_iconst hR (nI 0) (by decide) dX8_meet_32 ?_
              refine r_istore3 hR (fun _ h => by first | (cases h; rfl) | exact absurd h (by simp)) dX8_meet_33 ?_
              refine r_mem (M2 := pm (thM M) (dayN 0 (aS A))) (pm_id (row_th h)).symm ?_
              exact L 61 0 rfl rfl
          · try simp (disch := omega) only [nI_ltI, nI_leI, nI_eq, bI_0, Decidable.not_not, lc_lt, lc_gt, lc_ge, lc_le, lc_eq, i64_toInt] at c18
            try simp (disch := omega) only [cv_lt, cv_le, cv_eq, nI_toInt, cv_0] at c18
            first
            | omega
            | refine r_aload0 hR dX8_meet_21 ?_
              refine r_ldc hR ct_X8_41 dX8_meet_22 ?_
              refine r_cv1v hR kv_X8_43 (by decide) (t_X8_findsC (n := 0) (by decide) (by decide)) (by first | decide | assumption | (simp only [gcnt_4, gcnt_1, gcnt_2, gcnt_3, gcnt_12, gcnt_13, gcnt_16]; omega)) rfl rfl (Nat.le_of_ble_eq_true rfl) dX8_meet_24 ?_
              refine r_iret hR dX8_meet_27 ?_
              refine Qm_fnd hc (by decide) ?_
              unfold oMeet
              refine if_neg ?_
              rintro ⟨g1, g2, g3⟩
              dsimp only [okI, okT] at g1 g2
              simp only [cv_eq] at g3
              omega

theorem lea_le (S : Nat → Nat) (t c n : Nat) : leaW 99 S t c n ≤ 99 := by
  induction n with
  | zero => exact ways_le 99 S t 0 c
  | succ n ih =>
    unfold leaW
    split
    · exact ways_le 99 S t (n + 1) c
    · exact ih
set_option maxHeartbeats 4000000 in
set_option maxRecDepth 100000 in
theorem t_X8_bribes {G : gG} {M : gM} {A : gA} {x y z : Int32} (hc : mdlP M A) (hw : wfA A) : Ct G mX8_bribes 5 [.ref (ad G 15 0), .int x, .int y, .int z] M (Qm M (oBribes A x y z)) := by
  obtain ⟨hwf, hday, hwk, hk2, hl, hT, hsh⟩ := id hw
  obtain ⟨w0, w1, w2, w3, wr, wt⟩ := id hwf
  obtain ⟨h, hKp, hkk, hlp, htp, hshp, hfp⟩ := id hc
  refine Ct.of (by decide +kernel) (k := 2) (ls0 := [some (.ref (ad G 15 0)), some (.int x), some (.int y), some (.int z), none, none]) rfl rfl (fun _ _ => trivial) ?_
  intro P hR
  refine r_aload0 hR dX8_bribes_0 ?_
  refine r_iload1 hR dX8_bribes_1 ?_
  refine r_cv1v hR kv_X8_97 (by decide) (t_X8_isThing h w3) (by first | decide | assumption | (simp only [gcnt_4, gcnt_1, gcnt_2, gcnt_3, gcnt_12, gcnt_13, gcnt_16]; omega)) rfl rfl (Nat.le_of_ble_eq_true rfl) dX8_bribes_2 ?_
  refine r_if_eq hR 26 dX8_bribes_5 (by decide) (fun c5 => ?_) (fun c5 => ?_)
  · try simp (disch := omega) only [nI_ltI, nI_leI, nI_eq, bI_0, Decidable.not_not, lc_lt, lc_gt, lc_ge, lc_le, lc_eq, i64_toInt] at c5
    try simp (disch := omega) only [cv_lt, cv_le, cv_eq, nI_toInt, cv_0] at c5
    first
    | omega
    | refine r_aload0 hR dX8_bribes_26 ?_
      refine r_ldc hR ct_X8_41 dX8_bribes_27 ?_
      refine r_cv1v hR kv_X8_43 (by decide) (t_X8_findsC (n := 0) (by decide) (by decide)) (by first | decide | assumption | (simp only [gcnt_4, gcnt_1, gcnt_2, gcnt_3, gcnt_12, gcnt_13, gcnt_16]; omega)) rfl rfl (Nat.le_of_ble_eq_true rfl) dX8_bribes_29 ?_
      refine r_iret hR dX8_bribes_32 ?_
      refine Qm_fnd hc (by decide) ?_
      unfold oBribes
      dsimp only [okI, okT]
      (repeat' split) <;> first | rfl | omega
  · try simp (disch := omega) only [nI_ltI, nI_leI, nI_eq, bI_0, Decidable.not_not, lc_lt, lc_gt, lc_ge, lc_le, lc_eq, i64_toInt] at c5
    try simp (disch := omega) only [cv_lt, cv_le, cv_eq, nI_toInt, cv_0] at c5
    first
    | omega
    | refine r_iload2 hR dX8_bribes_8 ?_
      refine r_cs1v hR ks_X8_66 (by decide) (t_X8_isCell) (Nat.le_of_ble_eq_true rfl) dX8_bribes_9 ?_
      refine r_if_eq hR 26 dX8_bribes_12 (by decide) (fun c12 => ?_) (fun c12 => ?_)
      · try simp (disch := omega) only [nI_ltI, nI_leI, nI_eq, bI_0, Decidable.not_not, lc_lt, lc_gt, lc_ge, lc_le, lc_eq, i64_toInt] at c12
        try simp (disch := omega) only [cv_lt, cv_le, cv_eq, nI_toInt, cv_0] at c12
        first
        | omega
        | refine r_aload0 hR dX8_bribes_26 ?_
          refine r_ldc hR ct_X8_41 dX8_bribes_27 ?_
          refine r_cv1v hR kv_X8_43 (by decide) (t_X8_findsC (n := 0) (by decide) (by decide)) (by first | decide | assumption | (simp only [gcnt_4, gcnt_1, gcnt_2, gcnt_3, gcnt_12, gcnt_13, gcnt_16]; omega)) rfl rfl (Nat.le_of_ble_eq_true rfl) dX8_bribes_29 ?_
          refine r_iret hR dX8_bribes_32 ?_
          refine Qm_fnd hc (by decide) ?_
          unfold oBribes
          dsimp only [okI, okT]
          (repeat' split) <;> first | rfl | omega
      · try simp (disch := omega) only [nI_ltI, nI_leI, nI_eq, bI_0, Decidable.not_not, lc_lt, lc_gt, lc_ge, lc_le, lc_eq, i64_toInt] at c12
        try simp (disch := omega) only [cv_lt, cv_le, cv_eq, nI_toInt, cv_0] at c12
        first
        | omega
        | refine r_iload3 hR dX8_bribes_15 ?_
          refine r_i2l hR dX8_bribes_16 ?_
          refine r_iconst hR (nI 0) (by decide) dX8_bribes_17 ?_
          refine r_bipush hR (nI 30) (by decide) dX8_bribes_18 ?_
          refine r_cs3v hR ks_X8_47 (by decide) (t_X8_in) (Nat.le_of_ble_eq_true rfl) dX8_bribes_20 ?_
          refine r_if_ne hR 33 dX8_bribes_23 (by decide) (fun c23 => ?_) (fun c23 => ?_)
          · try simp (disch := omega) only [nI_ltI, nI_leI, nI_eq, bI_0, Decidable.not_not, lc_lt, lc_gt, lc_ge, lc_le, lc_eq, i64_toInt] at c23
            try simp (disch := omega) only [cv_lt, cv_le, cv_eq, nI_toInt, cv_0] at c23
            first
            | omega
            | obtain ⟨ce, hce, rfl⟩ := of_in (x := y) (N := 35) (by omega)
              obtain ⟨n, hn, rfl⟩ := of_in (x := z) (N := 30) (by omega)
              obtain ⟨t, ht0, rfl⟩ := of_in (x := x) (N := aS A 3 - 1) (by omega)
              have htt : t < aS A 3 := by rw [nI_toInt (by omega)] at c5; omega
              have e : oBribes A (nI t) (nI ce) (nI n) = if leaW 99 (aS A) t ce n = 99 then fnd A 3 else (nI (leaW 99 (aS A) t ce n), A) := by
                unfold oBribes
                rw [if_pos (by simp (disch := omega) only [okI, okT, nI_toInt]; omega)]
                simp (disch := omega) only [uN_nI]
              have L : ∀ (j i : Nat) (N : gM), i + j = n → eqY M N → (∀ j, j < 36 → N.1 18 0 j = nI (waysN 99 (aS A) t i j)) → P 49 [some (.ref (ad G 15 0)), some (.int (nI t)), some (.int (nI ce)), some (.int (nI n)), some (.int (nI (leaW 99 (aS A) t ce i))), some (.int (nI i))] [] N := by
                intro j
                induction j with
                | zero =>
                  intro i N hij hY hKN
                  have hN := rowP_eqY hY h
                  have hwl := ways_le 99 (aS A) t (i + 1)
                  have hwi := ways_le 99 (aS A) t i
                  have hle := lea_le (aS A) t ce i
                  have hwc := hwl ce
                  refine r_iload5 hR dX8_bribes_49 ?_
                  refine r_iload3 hR dX8_bribes_51 ?_
                  refine r_icmp_ge hR 99 dX8_bribes_52 (by decide) (fun c52 => ?_) (fun c52 => ?_)
                  · try simp (disch := omega) only [nI_ltI, nI_leI, nI_eq, bI_0, Decidable.not_not, lc_lt, lc_gt, lc_ge, lc_le, lc_eq, i64_toInt] at c52
                    try simp (disch := omega) only [cv_lt, cv_le, cv_eq, nI_toInt, cv_0] at c52
                    first
                    | omega
                    | refine r_iload4 hR dX8_bribes_99 ?_
                      refine r_bipush hR (nI 99) (by decide) dX8_bribes_101 ?_
                      refine r_icmp_ne hR 115 dX8_bribes_103 (by decide) (fun c103 => ?_) (fun c103 => ?_)
                      · try simp (disch := omega) only [nI_ltI, nI_leI, nI_eq, bI_0, Decidable.not_not, lc_lt, lc_gt, lc_ge, lc_le, lc_eq, i64_toInt] at c103
                        try simp (disch := omega) only [cv_lt, cv_le, cv_eq, nI_toInt, cv_0] at c103
                        first
                        | omega
                        | refine r_iload4 hR dX8_bribes_115 ?_
                          refine r_iret hR dX8_bribes_117 ?_
                          first
                          | (omega)
                          | (obtain rfl : i = n := by omega
                             rw [e, if_neg (by omega)]
                             exact Qm_eqY hY hc rfl)
                          | (obtain rfl : i = n := by omega
                             rw [e, if_pos (by omega)]
                             exact Qm_fndY hY hc (by decide) rfl)
                      · try simp (disch := omega) only [nI_ltI, nI_leI, nI_eq, bI_0, Decidable.not_not, lc_lt, lc_gt, lc_ge, lc_le, lc_eq, i64_toInt] at c103
                        try simp (disch := omega) only [cv_lt, cv_le, cv_eq, nI_toInt, cv_0] at c103
                        first
                        | omega
                        | refine r_aload0 hR dX8_bribes_106 ?_
                          refine r_ldc hR ct_X8_42 dX8_bribes_107 ?_
                          refine r_cv1v hR kv_X8_43 (by decide) (t_X8_findsC (n := 3) (by decide) (by decide)) (by first | decide | assumption | (simp only [gcnt_4, gcnt_1, gcnt_2, gcnt_3, gcnt_12, gcnt_13, gcnt_16]; omega)) rfl rfl (Nat.le_of_ble_eq_true rfl) dX8_bribes_109 ?_
                          refine r_goto hR 117 dX8_bribes_112 (by decide) ?_
                          refine r_iret hR dX8_bribes_117 ?_
                          first
                          | (omega)
                          | (obtain rfl : i = n := by omega
                             rw [e, if_neg (by omega)]
                             exact Qm_eqY hY hc rfl)
                          | (obtain rfl : i = n := by omega
                             rw [e, if_pos (by omega)]
                             exact Qm_fndY hY hc (by decide) rfl)
                  · try simp (disch := omega) only [nI_ltI, nI_leI, nI_eq, bI_0, Decidable.not_not, lc_lt, lc_gt, lc_ge, lc_le, lc_eq, i64_toInt] at c52
                    try simp (disch := omega) only [cv_lt, cv_le, cv_eq, nI_toInt, cv_0] at c52
                    first
                    | omega
                    | refine r_aload0 hR dX8_bribes_55 ?_
                      refine r_iload1 hR dX8_bribes_56 ?_
                      refine r_aload0 hR dX8_bribes_57 ?_
                      refine r_get hR (by first | decide | assumption | (simp only [gcnt_4, gcnt_1, gcnt_2, gcnt_3, gcnt_12, gcnt_13, gcnt_16]; omega)) fl_X8_9 rfl rfl dX8_bribes_58 ?_
                      refine r_iconst hR (nI 0) (by decide) dX8_bribes_61 ?_
                      refine r_iald hR (by first | decide | assumption | (simp only [gcnt_4, gcnt_1, gcnt_2, gcnt_3, gcnt_12, gcnt_13, gcnt_16]; omega)) rfl rfl (by omega) (by decide) dX8_bribes_62 ?_
                      rw [hN 0 (by omega)]
                      refine r_iload5 hR dX8_bribes_63 ?_
                      refine r_iadd hR dX8_bribes_65 ?_
                      try rw [nI_add]
                      refine r_cv2u hR kv_X8_136 (by decide) (t_X8_dayOn (rowP_eqY hY h) hwf htt (by omega) hKN (ways_le 99 (aS A) t i)) (by first | decide | assumption | (simp only [gcnt_4, gcnt_1, gcnt_2, gcnt_3, gcnt_12, gcnt_13, gcnt_16]; omega)) rfl rfl (Nat.le_of_ble_eq_true rfl) dX8_bribes_66 ?_
                      refine r_aload0 hR dX8_bribes_69 ?_
                      refine r_get hR (by first | decide | assumption | (simp only [gcnt_4, gcnt_1, gcnt_2, gcnt_3, gcnt_12, gcnt_13, gcnt_16]; omega)) fl_X8_22 rfl rfl dX8_bribes_70 ?_
                      refine r_iload2 hR dX8_bribes_73 ?_
                      refine r_iald hR (by first | decide | assumption | (simp only [gcnt_4, gcnt_1, gcnt_2, gcnt_3, gcnt_12, gcnt_13, gcnt_16]; omega)) rfl rfl (by omega) (by decide) dX8_bribes_74 ?_
                      rw [putR_at _ 18 0 _ (by omega)]
                      refine r_nm (nI (waysN 99 (aS A) t (i + 1) ce)) rfl ?_
                      refine r_iload4 hR dX8_bribes_75 ?_
                      refine r_icmp_ge hR 89 dX8_bribes_77 (by decide) (fun c77 => ?_) (fun c77 => ?_)
                      · try simp (disch := omega) only [nI_ltI, nI_leI, nI_eq, bI_0, Decidable.not_not, lc_lt, lc_gt, lc_ge, lc_le, lc_eq, i64_toInt] at c77
                        try simp (disch := omega) only [cv_lt, cv_le, cv_eq, nI_toInt, cv_0] at c77
                        first
                        | omega
                        | refine r_iload4 hR dX8_bribes_89 ?_
                          refine r_istore4 hR (fun _ h => by first | (cases h; rfl) | exact absurd h (by simp)) dX8_bribes_91 ?_
                          refine r_iinc5 hR (nI 1) (by decide) (fun _ h => by first | (cases h; rfl) | exact absurd h (by simp)) dX8_bribes_93 ?_
                          try rw [nI_add]
                          refine r_goto hR 49 dX8_bribes_96 (by decide) ?_
                          omega
                      · try simp (disch := omega) only [nI_ltI, nI_leI, nI_eq, bI_0, Decidable.not_not, lc_lt, lc_gt, lc_ge, lc_le, lc_eq, i64_toInt] at c77
                        try simp (disch := omega) only [cv_lt, cv_le, cv_eq, nI_toInt, cv_0] at c77
                        first
                        | omega
                        | refine r_aload0 hR dX8_bribes_80 ?_
                          refine r_get hR (by first | decide | assumption | (simp only [gcnt_4, gcnt_1, gcnt_2, gcnt_3, gcnt_12, gcnt_13, gcnt_16]; omega)) fl_X8_22 rfl rfl dX8_bribes_81 ?_
                          refine r_iload2 hR dX8_bribes_84 ?_
                          refine r_iald hR (by first | decide | assumption | (simp only [gcnt_4, gcnt_1, gcnt_2, gcnt_3, gcnt_12, gcnt_13, gcnt_16]; omega)) rfl rfl (by omega) (by decide) dX8_bribes_85 ?_
                          rw [putR_at _ 18 0 _ (by omega)]
                          refine r_nm (nI (waysN 99 (aS A) t (i + 1) ce)) rfl ?_
                          refine r_goto hR 91 dX8_bribes_86 (by decide) ?_
                          refine r_istore4 hR (fun _ h => by first | (cases h; rfl) | exact absurd h (by simp)) dX8_bribes_91 ?_
                          refine r_iinc5 hR (nI 1) (by decide) (fun _ h => by first | (cases h; rfl) | exact absurd h (by simp)) dX8_bribes_93 ?_
                          try rw [nI_add]
                          refine r_goto hR 49 dX8_bribes_96 (by decide) ?_
                          omega
                | succ j ih =>
                  intro i N hij hY hKN
                  have hN := rowP_eqY hY h
                  have hwl := ways_le 99 (aS A) t (i + 1)
                  have hwi := ways_le 99 (aS A) t i
                  have hle := lea_le (aS A) t ce i
                  have hwc := hwl ce
                  refine r_iload5 hR dX8_bribes_49 ?_
                  refine r_iload3 hR dX8_bribes_51 ?_
                  refine r_icmp_ge hR 99 dX8_bribes_52 (by decide) (fun c52 => ?_) (fun c52 => ?_)
                  · try simp (disch := omega) only [nI_ltI, nI_leI, nI_eq, bI_0, Decidable.not_not, lc_lt, lc_gt, lc_ge, lc_le, lc_eq, i64_toInt] at c52
                    try simp (disch := omega) only [cv_lt, cv_le, cv_eq, nI_toInt, cv_0] at c52
                    first
                    | omega
                    | refine r_iload4 hR dX8_bribes_99 ?_
                      refine r_bipush hR (nI 99) (by decide) dX8_bribes_101 ?_
                      refine r_icmp_ne hR 115 dX8_bribes_103 (by decide) (fun c103 => ?_) (fun c103 => ?_)
                      · try simp (disch := omega) only [nI_ltI, nI_leI, nI_eq, bI_0, Decidable.not_not, lc_lt, lc_gt, lc_ge, lc_le, lc_eq, i64_toInt] at c103
                        try simp (disch := omega) only [cv_lt, cv_le, cv_eq, nI_toInt, cv_0] at c103
                        first
                        | omega
                        | refine r_iload4 hR dX8_bribes_115 ?_
                          refine r_iret hR dX8_bribes_117 ?_
                          first
                          | (omega)
                          | (obtain rfl : i = n := by omega
                             rw [e, if_neg (by omega)]
                             exact Qm_eqY hY hc rfl)
                          | (obtain rfl : i = n := by omega
                             rw [e, if_pos (by omega)]
                             exact Qm_fndY hY hc (by decide) rfl)
                      · try simp (disch := omega) only [nI_ltI, nI_leI, nI_eq, bI_0, Decidable.not_not, lc_lt, lc_gt, lc_ge, lc_le, lc_eq, i64_toInt] at c103
                        try simp (disch := omega) only [cv_lt, cv_le, cv_eq, nI_toInt, cv_0] at c103
                        first
                        | omega
                        | refine r_aload0 hR dX8_bribes_106 ?_
                          refine r_ldc hR ct_X8_42 dX8_bribes_107 ?_
                          refine r_cv1v hR kv_X8_43 (by decide) (t_X8_findsC (n := 3) (by decide) (by decide)) (by first | decide | assumption | (simp only [gcnt_4, gcnt_1, gcnt_2, gcnt_3, gcnt_12, gcnt_13, gcnt_16]; omega)) rfl rfl (Nat.le_of_ble_eq_true rfl) dX8_bribes_109 ?_
                          refine r_goto hR 117 dX8_bribes_112 (by decide) ?_
                          refine r_iret hR dX8_bribes_117 ?_
                          first
                          | (omega)
                          | (obtain rfl : i = n := by omega
                             rw [e, if_neg (by omega)]
                             exact Qm_eqY hY hc rfl)
                          | (obtain rfl : i = n := by omega
                             rw [e, if_pos (by omega)]
                             exact Qm_fndY hY hc (by decide) rfl)
                  · try simp (disch := omega) only [nI_ltI, nI_leI, nI_eq, bI_0, Decidable.not_not, lc_lt, lc_gt, lc_ge, lc_le, lc_eq, i64_toInt] at c52
                    try simp (disch := omega) only [cv_lt, cv_le, cv_eq, nI_toInt, cv_0] at c52
                    first
                    | omega
                    | refine r_aload0 hR dX8_bribes_55 ?_
                      refine r_iload1 hR dX8_bribes_56 ?_
                      refine r_aload0 hR dX8_bribes_57 ?_
                      refine r_get hR (by first | decide | assumption | (simp only [gcnt_4, gcnt_1, gcnt_2, gcnt_3, gcnt_12, gcnt_13, gcnt_16]; omega)) fl_X8_9 rfl rfl dX8_bribes_58 ?_
                      refine r_iconst hR (nI 0) (by decide) dX8_bribes_61 ?_
                      refine r_iald hR (by first | decide | assumption | (simp only [gcnt_4, gcnt_1, gcnt_2, gcnt_3, gcnt_12, gcnt_13, gcnt_16]; omega)) rfl rfl (by omega) (by decide) dX8_bribes_62 ?_
                      rw [hN 0 (by omega)]
                      refine r_iload5 hR dX8_bribes_63 ?_
                      refine r_iadd hR dX8_bribes_65 ?_
                      try rw [nI_add]
                      refine r_cv2u hR kv_X8_136 (by decide) (t_X8_dayOn (rowP_eqY hY h) hwf htt (by omega) hKN (ways_le 99 (aS A) t i)) (by first | decide | assumption | (simp only [gcnt_4, gcnt_1, gcnt_2, gcnt_3, gcnt_12, gcnt_13, gcnt_16]; omega)) rfl rfl (Nat.le_of_ble_eq_true rfl) dX8_bribes_66 ?_
                      refine r_aload0 hR dX8_bribes_69 ?_
                      refine r_get hR (by first | decide | assumption | (simp only [gcnt_4, gcnt_1, gcnt_2, gcnt_3, gcnt_12, gcnt_13, gcnt_16]; omega)) fl_X8_22 rfl rfl dX8_bribes_70 ?_
                      refine r_iload2 hR dX8_bribes_73 ?_
                      refine r_iald hR (by first | decide | assumption | (simp only [gcnt_4, gcnt_1, gcnt_2, gcnt_3, gcnt_12, gcnt_13, gcnt_16]; omega)) rfl rfl (by omega) (by decide) dX8_bribes_74 ?_
                      rw [putR_at _ 18 0 _ (by omega)]
                      refine r_nm (nI (waysN 99 (aS A) t (i + 1) ce)) rfl ?_
                      refine r_iload4 hR dX8_bribes_75 ?_
                      refine r_icmp_ge hR 89 dX8_bribes_77 (by decide) (fun c77 => ?_) (fun c77 => ?_)
                      · try simp (disch := omega) only [nI_ltI, nI_leI, nI_eq, bI_0, Decidable.not_not, lc_lt, lc_gt, lc_ge, lc_le, lc_eq, i64_toInt] at c77
                        try simp (disch := omega) only [cv_lt, cv_le, cv_eq, nI_toInt, cv_0] at c77
                        first
                        | omega
                        | refine r_iload4 hR dX8_bribes_89 ?_
                          refine r_istore4 hR (fun _ h => by first | (cases h; rfl) | exact absurd h (by simp)) dX8_bribes_91 ?_
                          refine r_iinc5 hR (nI 1) (by decide) (fun _ h => by first | (cases h; rfl) | exact absurd h (by simp)) dX8_bribes_93 ?_
                          try rw [nI_add]
                          refine r_goto hR 49 dX8_bribes_96 (by decide) ?_
                          have es : leaW 99 (aS A) t ce (i + 1) = if waysN 99 (aS A) t (i + 1) ce < leaW 99 (aS A) t ce i then waysN 99 (aS A) t (i + 1) ce else leaW 99 (aS A) t ce i := rfl
                          first
                          | (rw [if_pos (by omega)] at es; rw [← es]; exact ih (i + 1) _ (by omega) (hY.tr ((eqY_putR N 1 _ 36).tr (eqY_putR _ 0 _ 36))) (fun j hj => putR_at _ 18 0 _ hj))
                          | (rw [if_neg (by omega)] at es; rw [← es]; exact ih (i + 1) _ (by omega) (hY.tr ((eqY_putR N 1 _ 36).tr (eqY_putR _ 0 _ 36))) (fun j hj => putR_at _ 18 0 _ hj))
                      · try simp (disch := omega) only [nI_ltI, nI_leI, nI_eq, bI_0, Decidable.not_not, lc_lt, lc_gt, lc_ge, lc_le, lc_eq, i64_toInt] at c77
                        try simp (disch := omega) only [cv_lt, cv_le, cv_eq, nI_toInt, cv_0] at c77
                        first
                        | omega
                        | refine r_aload0 hR dX8_bribes_80 ?_
                          refine r_get hR (by first | decide | assumption | (simp only [gcnt_4, gcnt_1, gcnt_2, gcnt_3, gcnt_12, gcnt_13, gcnt_16]; omega)) fl_X8_22 rfl rfl dX8_bribes_81 ?_
                          refine r_iload2 hR dX8_bribes_84 ?_
                          refine r_iald hR (by first | decide | assumption | (simp only [gcnt_4, gcnt_1, gcnt_2, gcnt_3, gcnt_12, gcnt_13, gcnt_16]; omega)) rfl rfl (by omega) (by decide) dX8_bribes_85 ?_
                          rw [putR_at _ 18 0 _ (by omega)]
                          refine r_nm (nI (waysN 99 (aS A) t (i + 1) ce)) rfl ?_
                          refine r_goto hR 91 dX8_bribes_86 (by decide) ?_
                          refine r_istore4 hR (fun _ h => by first | (cases h; rfl) | exact absurd h (by simp)) dX8_bribes_91 ?_
                          refine r_iinc5 hR (nI 1) (by decide) (fun _ h => by first | (cases h; rfl) | exact absurd h (by simp)) dX8_bribes_93 ?_
                          try rw [nI_add]
                          refine r_goto hR 49 dX8_bribes_96 (by decide) ?_
                          have es : leaW 99 (aS A) t ce (i + 1) = if waysN 99 (aS A) t (i + 1) ce < leaW 99 (aS A) t ce i then waysN 99 (aS A) t (i + 1) ce else leaW 99 (aS A) t ce i := rfl
                          first
                          | (rw [if_pos (by omega)] at es; rw [← es]; exact ih (i + 1) _ (by omega) (hY.tr ((eqY_putR N 1 _ 36).tr (eqY_putR _ 0 _ 36))) (fun j hj => putR_at _ 18 0 _ hj))
                          | (rw [if_neg (by omega)] at es; rw [← es]; exact ih (i + 1) _ (by omega) (hY.tr ((eqY_putR N 1 _ 36).tr (eqY_putR _ 0 _ 36))) (fun j hj => putR_at _ 18 0 _ hj))
              refine r_aload0 hR dX8_bribes_33 ?_
              refine r_iload1 hR dX8_bribes_34 ?_
              refine r_cv1u hR kv_X8_133 (by decide) (t_X8_begins h hwf htt) (by first | decide | assumption | (simp only [gcnt_4, gcnt_1, gcnt_2, gcnt_3, gcnt_12, gcnt_13, gcnt_16]; omega)) rfl rfl (Nat.le_of_ble_eq_true rfl) dX8_bribes_35 ?_
              refine r_aload0 hR dX8_bribes_38 ?_
              refine r_get hR (by first | decide | assumption | (simp only [gcnt_4, gcnt_1, gcnt_2, gcnt_3, gcnt_12, gcnt_13, gcnt_16]; omega)) fl_X8_22 rfl rfl dX8_bribes_39 ?_
              refine r_iload2 hR dX8_bribes_42 ?_
              refine r_iald hR (by first | decide | assumption | (simp only [gcnt_4, gcnt_1, gcnt_2, gcnt_3, gcnt_12, gcnt_13, gcnt_16]; omega)) rfl rfl (by omega) (by decide) dX8_bribes_43 ?_
              rw [putR_at _ 18 0 _ (by omega)]
              refine r_istore4 hR (fun _ h => by first | (cases h; rfl) | exact absurd h (by simp)) dX8_bribes_44 ?_
              refine r_iconst hR (nI 0) (by decide) dX8_bribes_46 ?_
              refine r_istore5 hR (fun _ h => by first | (cases h; rfl) | exact absurd h (by simp)) dX8_bribes_47 ?_
              exact L n 0 _ (by omega) (eqY_putR M 0 _ 36) (fun j hj => putR_at M 18 0 _ hj)
          · try simp (disch := omega) only [nI_ltI, nI_leI, nI_eq, bI_0, Decidable.not_not, lc_lt, lc_gt, lc_ge, lc_le, lc_eq, i64_toInt] at c23
            try simp (disch := omega) only [cv_lt, cv_le, cv_eq, nI_toInt, cv_0] at c23
            first
            | omega
            | refine r_aload0 hR dX8_bribes_26 ?_
              refine r_ldc hR ct_X8_41 dX8_bribes_27 ?_
              refine r_cv1v hR kv_X8_43 (by decide) (t_X8_findsC (n := 0) (by decide) (by decide)) (by first | decide | assumption | (simp only [gcnt_4, gcnt_1, gcnt_2, gcnt_3, gcnt_12, gcnt_13, gcnt_16]; omega)) rfl rfl (Nat.le_of_ble_eq_true rfl) dX8_bribes_29 ?_
              refine r_iret hR dX8_bribes_32 ?_
              refine Qm_fnd hc (by decide) ?_
              unfold oBribes
              dsimp only [okI, okT]
              (repeat' split) <;> first | rfl | omega

set_option maxHeartbeats 4000000 in
set_option maxRecDepth 100000 in
theorem t_X8_soonest {G : gG} {M : gM} {A : gA} {x y z : Int32} (hc : mdlP M A) (hw : wfA A) : Ct G mX8_soonest 5 [.ref (ad G 15 0), .int x, .int y, .int z] M (Qm M (oSoonest A x y z)) := by
  obtain ⟨hwf, hday, hwk, hk2, hl, hT, hsh⟩ := id hw
  obtain ⟨w0, w1, w2, w3, wr, wt⟩ := id hwf
  obtain ⟨h, hKp, hkk, hlp, htp, hshp, hfp⟩ := id hc
  refine Ct.of (by decide +kernel) (k := 1) (ls0 := [some (.ref (ad G 15 0)), some (.int x), some (.int y), some (.int z), none]) rfl rfl (fun _ _ => trivial) ?_
  intro P hR
  refine r_aload0 hR dX8_soonest_0 ?_
  refine r_iload1 hR dX8_soonest_1 ?_
  refine r_cv1v hR kv_X8_97 (by decide) (t_X8_isThing h w3) (by first | decide | assumption | (simp only [gcnt_4, gcnt_1, gcnt_2, gcnt_3, gcnt_12, gcnt_13, gcnt_16]; omega)) rfl rfl (Nat.le_of_ble_eq_true rfl) dX8_soonest_2 ?_
  refine r_if_eq hR 26 dX8_soonest_5 (by decide) (fun c5 => ?_) (fun c5 => ?_)
  · try simp (disch := omega) only [nI_ltI, nI_leI, nI_eq, bI_0, Decidable.not_not, lc_lt, lc_gt, lc_ge, lc_le, lc_eq, i64_toInt] at c5
    try simp (disch := omega) only [cv_lt, cv_le, cv_eq, nI_toInt, cv_0] at c5
    first
    | omega
    | refine r_aload0 hR dX8_soonest_26 ?_
      refine r_ldc hR ct_X8_41 dX8_soonest_27 ?_
      refine r_cv1v hR kv_X8_43 (by decide) (t_X8_findsC (n := 0) (by decide) (by decide)) (by first | decide | assumption | (simp only [gcnt_4, gcnt_1, gcnt_2, gcnt_3, gcnt_12, gcnt_13, gcnt_16]; omega)) rfl rfl (Nat.le_of_ble_eq_true rfl) dX8_soonest_29 ?_
      refine r_iret hR dX8_soonest_32 ?_
      refine Qm_fnd hc (by decide) ?_
      unfold oSoonest
      dsimp only [okI, okT]
      (repeat' split) <;> first | rfl | omega
  · try simp (disch := omega) only [nI_ltI, nI_leI, nI_eq, bI_0, Decidable.not_not, lc_lt, lc_gt, lc_ge, lc_le, lc_eq, i64_toInt] at c5
    try simp (disch := omega) only [cv_lt, cv_le, cv_eq, nI_toInt, cv_0] at c5
    first
    | omega
    | refine r_iload2 hR dX8_soonest_8 ?_
      refine r_cs1v hR ks_X8_66 (by decide) (t_X8_isCell) (Nat.le_of_ble_eq_true rfl) dX8_soonest_9 ?_
      refine r_if_eq hR 26 dX8_soonest_12 (by decide) (fun c12 => ?_) (fun c12 => ?_)
      · try simp (disch := omega) only [nI_ltI, nI_leI, nI_eq, bI_0, Decidable.not_not, lc_lt, lc_gt, lc_ge, lc_le, lc_eq, i64_toInt] at c12
        try simp (disch := omega) only [cv_lt, cv_le, cv_eq, nI_toInt, cv_0] at c12
        first
        | omega
        | refine r_aload0 hR dX8_soonest_26 ?_
          refine r_ldc hR ct_X8_41 dX8_soonest_27 ?_
          refine r_cv1v hR kv_X8_43 (by decide) (t_X8_findsC (n := 0) (by decide) (by decide)) (by first | decide | assumption | (simp only [gcnt_4, gcnt_1, gcnt_2, gcnt_3, gcnt_12, gcnt_13, gcnt_16]; omega)) rfl rfl (Nat.le_of_ble_eq_true rfl) dX8_soonest_29 ?_
          refine r_iret hR dX8_soonest_32 ?_
          refine Qm_fnd hc (by decide) ?_
          unfold oSoonest
          dsimp only [okI, okT]
          (repeat' split) <;> first | rfl | omega
      · try simp (disch := omega) only [nI_ltI, nI_leI, nI_eq, bI_0, Decidable.not_not, lc_lt, lc_gt, lc_ge, lc_le, lc_eq, i64_toInt] at c12
        try simp (disch := omega) only [cv_lt, cv_le, cv_eq, nI_toInt, cv_0] at c12
        first
        | omega
        | refine r_iload3 hR dX8_soonest_15 ?_
          refine r_i2l hR dX8_soonest_16 ?_
          refine r_iconst hR (nI 0) (by decide) dX8_soonest_17 ?_
          refine r_bipush hR (nI 30) (by decide) dX8_soonest_18 ?_
          refine r_cs3v hR ks_X8_47 (by decide) (t_X8_in) (Nat.le_of_ble_eq_true rfl) dX8_soonest_20 ?_
          refine r_if_ne hR 33 dX8_soonest_23 (by decide) (fun c23 => ?_) (fun c23 => ?_)
          · try simp (disch := omega) only [nI_ltI, nI_leI, nI_eq, bI_0, Decidable.not_not, lc_lt, lc_gt, lc_ge, lc_le, lc_eq, i64_toInt] at c23
            try simp (disch := omega) only [cv_lt, cv_le, cv_eq, nI_toInt, cv_0] at c23
            first
            | omega
            | obtain ⟨ce, hce, rfl⟩ := of_in (x := y) (N := 35) (by omega)
              obtain ⟨k, hk, rfl⟩ := of_in (x := z) (N := 30) (by omega)
              obtain ⟨t, ht0, rfl⟩ := of_in (x := x) (N := aS A 3 - 1) (by omega)
              have htt : t < aS A 3 := by rw [nI_toInt (by omega)] at c5; omega
              have e : oSoonest A (nI t) (nI ce) (nI k) = if firstN (fun d => decide (waysN 99 (aS A) t d ce ≤ k)) 31 0 = 31 then fnd A 3 else (nI (firstN (fun d => decide (waysN 99 (aS A) t d ce ≤ k)) 31 0), A) := by
                unfold oSoonest
                rw [if_pos (by simp (disch := omega) only [okI, okT, nI_toInt]; omega)]
                simp (disch := omega) only [uN_nI]
              have L : ∀ (j i : Nat) (N : gM), i + j = 31 → eqY M N → (∀ j, j < 36 → N.1 18 0 j = nI (waysN 99 (aS A) t i j)) → firstN (fun d => decide (waysN 99 (aS A) t d ce ≤ k)) j i = firstN (fun d => decide (waysN 99 (aS A) t d ce ≤ k)) 31 0 → P 41 [some (.ref (ad G 15 0)), some (.int (nI t)), some (.int (nI ce)), some (.int (nI k)), some (.int (nI i))] [] N := by
                intro j
                induction j with
                | zero =>
                  intro i N hij hY hKN hf
                  have hN := rowP_eqY hY h
                  have hwl := ways_le 99 (aS A) t (i + 1)
                  have hwi := ways_le 99 (aS A) t i
                  have hwc := hwi ce
                  refine r_iload4 hR dX8_soonest_41 ?_
                  refine r_bipush hR (nI 30) (by decide) dX8_soonest_43 ?_
                  refine r_icmp_gt hR 81 dX8_soonest_45 (by decide) (fun c45 => ?_) (fun c45 => ?_)
                  · try simp (disch := omega) only [nI_ltI, nI_leI, nI_eq, bI_0, Decidable.not_not, lc_lt, lc_gt, lc_ge, lc_le, lc_eq, i64_toInt] at c45
                    try simp (disch := omega) only [cv_lt, cv_le, cv_eq, nI_toInt, cv_0] at c45
                    first
                    | omega
                    | refine r_aload0 hR dX8_soonest_81 ?_
                      refine r_ldc hR ct_X8_42 dX8_soonest_82 ?_
                      refine r_cv1v hR kv_X8_43 (by decide) (t_X8_findsC (n := 3) (by decide) (by decide)) (by first | decide | assumption | (simp only [gcnt_4, gcnt_1, gcnt_2, gcnt_3, gcnt_12, gcnt_13, gcnt_16]; omega)) rfl rfl (Nat.le_of_ble_eq_true rfl) dX8_soonest_84 ?_
                      refine r_iret hR dX8_soonest_87 ?_
                      obtain rfl : i = 31 := by omega
                      refine Qm_fndY hY hc (by decide) ?_
                      rw [e, ← hf]
                      exact if_pos rfl
                  · try simp (disch := omega) only [nI_ltI, nI_leI, nI_eq, bI_0, Decidable.not_not, lc_lt, lc_gt, lc_ge, lc_le, lc_eq, i64_toInt] at c45
                    try simp (disch := omega) only [cv_lt, cv_le, cv_eq, nI_toInt, cv_0] at c45
                    first
                    | omega
                    | refine r_aload0 hR dX8_soonest_48 ?_
                      refine r_get hR (by first | decide | assumption | (simp only [gcnt_4, gcnt_1, gcnt_2, gcnt_3, gcnt_12, gcnt_13, gcnt_16]; omega)) fl_X8_22 rfl rfl dX8_soonest_49 ?_
                      refine r_iload2 hR dX8_soonest_52 ?_
                      refine r_iald hR (by first | decide | assumption | (simp only [gcnt_4, gcnt_1, gcnt_2, gcnt_3, gcnt_12, gcnt_13, gcnt_16]; omega)) rfl rfl (by omega) (by decide) dX8_soonest_53 ?_
                      rw [hKN ce (by omega)]
                      refine r_iload3 hR dX8_soonest_54 ?_
                      refine r_icmp_gt hR 61 dX8_soonest_55 (by decide) (fun c55 => ?_) (fun c55 => ?_)
                      · try simp (disch := omega) only [nI_ltI, nI_leI, nI_eq, bI_0, Decidable.not_not, lc_lt, lc_gt, lc_ge, lc_le, lc_eq, i64_toInt] at c55
                        try simp (disch := omega) only [cv_lt, cv_le, cv_eq, nI_toInt, cv_0] at c55
                        first
                        | omega
                        | refine r_aload0 hR dX8_soonest_61 ?_
                          refine r_iload1 hR dX8_soonest_62 ?_
                          refine r_aload0 hR dX8_soonest_63 ?_
                          refine r_get hR (by first | decide | assumption | (simp only [gcnt_4, gcnt_1, gcnt_2, gcnt_3, gcnt_12, gcnt_13, gcnt_16]; omega)) fl_X8_9 rfl rfl dX8_soonest_64 ?_
                          refine r_iconst hR (nI 0) (by decide) dX8_soonest_67 ?_
                          refine r_iald hR (by first | decide | assumption | (simp only [gcnt_4, gcnt_1, gcnt_2, gcnt_3, gcnt_12, gcnt_13, gcnt_16]; omega)) rfl rfl (by omega) (by decide) dX8_soonest_68 ?_
                          rw [hN 0 (by omega)]
                          refine r_iload4 hR dX8_soonest_69 ?_
                          refine r_iadd hR dX8_soonest_71 ?_
                          try rw [nI_add]
                          refine r_cv2u hR kv_X8_136 (by decide) (t_X8_dayOn (rowP_eqY hY h) hwf htt (by omega) hKN (ways_le 99 (aS A) t i)) (by first | decide | assumption | (simp only [gcnt_4, gcnt_1, gcnt_2, gcnt_3, gcnt_12, gcnt_13, gcnt_16]; omega)) rfl rfl (Nat.le_of_ble_eq_true rfl) dX8_soonest_72 ?_
                          refine r_iinc4 hR (nI 1) (by decide) (fun _ h => by first | (cases h; rfl) | exact absurd h (by simp)) dX8_soonest_75 ?_
                          try rw [nI_add]
                          refine r_goto hR 41 dX8_soonest_78 (by decide) ?_
                          omega
                      · try simp (disch := omega) only [nI_ltI, nI_leI, nI_eq, bI_0, Decidable.not_not, lc_lt, lc_gt, lc_ge, lc_le, lc_eq, i64_toInt] at c55
                        try simp (disch := omega) only [cv_lt, cv_le, cv_eq, nI_toInt, cv_0] at c55
                        first
                        | omega
                        | refine r_iload4 hR dX8_soonest_58 ?_
                          refine r_iret hR dX8_soonest_60 ?_
                          omega
                | succ j ih =>
                  intro i N hij hY hKN hf
                  have hN := rowP_eqY hY h
                  have hwl := ways_le 99 (aS A) t (i + 1)
                  have hwi := ways_le 99 (aS A) t i
                  have hwc := hwi ce
                  refine r_iload4 hR dX8_soonest_41 ?_
                  refine r_bipush hR (nI 30) (by decide) dX8_soonest_43 ?_
                  refine r_icmp_gt hR 81 dX8_soonest_45 (by decide) (fun c45 => ?_) (fun c45 => ?_)
                  · try simp (disch := omega) only [nI_ltI, nI_leI, nI_eq, bI_0, Decidable.not_not, lc_lt, lc_gt, lc_ge, lc_le, lc_eq, i64_toInt] at c45
                    try simp (disch := omega) only [cv_lt, cv_le, cv_eq, nI_toInt, cv_0] at c45
                    first
                    | omega
                    | refine r_aload0 hR dX8_soonest_81 ?_
                      refine r_ldc hR ct_X8_42 dX8_soonest_82 ?_
                      refine r_cv1v hR kv_X8_43 (by decide) (t_X8_findsC (n := 3) (by decide) (by decide)) (by first | decide | assumption | (simp only [gcnt_4, gcnt_1, gcnt_2, gcnt_3, gcnt_12, gcnt_13, gcnt_16]; omega)) rfl rfl (Nat.le_of_ble_eq_true rfl) dX8_soonest_84 ?_
                      refine r_iret hR dX8_soonest_87 ?_
                      omega
                  · try simp (disch := omega) only [nI_ltI, nI_leI, nI_eq, bI_0, Decidable.not_not, lc_lt, lc_gt, lc_ge, lc_le, lc_eq, i64_toInt] at c45
                    try simp (disch := omega) only [cv_lt, cv_le, cv_eq, nI_toInt, cv_0] at c45
                    first
                    | omega
                    | refine r_aload0 hR dX8_soonest_48 ?_
                      refine r_get hR (by first | decide | assumption | (simp only [gcnt_4, gcnt_1, gcnt_2, gcnt_3, gcnt_12, gcnt_13, gcnt_16]; omega)) fl_X8_22 rfl rfl dX8_soonest_49 ?_
                      refine r_iload2 hR dX8_soonest_52 ?_
                      refine r_iald hR (by first | decide | assumption | (simp only [gcnt_4, gcnt_1, gcnt_2, gcnt_3, gcnt_12, gcnt_13, gcnt_16]; omega)) rfl rfl (by omega) (by decide) dX8_soonest_53 ?_
                      rw [hKN ce (by omega)]
                      refine r_iload3 hR dX8_soonest_54 ?_
                      refine r_icmp_gt hR 61 dX8_soonest_55 (by decide) (fun c55 => ?_) (fun c55 => ?_)
                      · try simp (disch := omega) only [nI_ltI, nI_leI, nI_eq, bI_0, Decidable.not_not, lc_lt, lc_gt, lc_ge, lc_le, lc_eq, i64_toInt] at c55
                        try simp (disch := omega) only [cv_lt, cv_le, cv_eq, nI_toInt, cv_0] at c55
                        first
                        | omega
                        | refine r_aload0 hR dX8_soonest_61 ?_
                          refine r_iload1 hR dX8_soonest_62 ?_
                          refine r_aload0 hR dX8_soonest_63 ?_
                          refine r_get hR (by first | decide | assumption | (simp only [gcnt_4, gcnt_1, gcnt_2, gcnt_3, gcnt_12, gcnt_13, gcnt_16]; omega)) fl_X8_9 rfl rfl dX8_soonest_64 ?_
                          refine r_iconst hR (nI 0) (by decide) dX8_soonest_67 ?_
                          refine r_iald hR (by first | decide | assumption | (simp only [gcnt_4, gcnt_1, gcnt_2, gcnt_3, gcnt_12, gcnt_13, gcnt_16]; omega)) rfl rfl (by omega) (by decide) dX8_soonest_68 ?_
                          rw [hN 0 (by omega)]
                          refine r_iload4 hR dX8_soonest_69 ?_
                          refine r_iadd hR dX8_soonest_71 ?_
                          try rw [nI_add]
                          refine r_cv2u hR kv_X8_136 (by decide) (t_X8_dayOn (rowP_eqY hY h) hwf htt (by omega) hKN (ways_le 99 (aS A) t i)) (by first | decide | assumption | (simp only [gcnt_4, gcnt_1, gcnt_2, gcnt_3, gcnt_12, gcnt_13, gcnt_16]; omega)) rfl rfl (Nat.le_of_ble_eq_true rfl) dX8_soonest_72 ?_
                          refine r_iinc4 hR (nI 1) (by decide) (fun _ h => by first | (cases h; rfl) | exact absurd h (by simp)) dX8_soonest_75 ?_
                          try rw [nI_add]
                          refine r_goto hR 41 dX8_soonest_78 (by decide) ?_
                          have ef : firstN (fun d => decide (waysN 99 (aS A) t d ce ≤ k)) (j + 1) i = firstN (fun d => decide (waysN 99 (aS A) t d ce ≤ k)) j (i + 1) := by
                            conv => lhs; unfold firstN
                            rw [if_neg (by simp only [decide_eq_true_eq]; omega)]
                          exact ih (i + 1) _ (by omega) (hY.tr ((eqY_putR N 1 _ 36).tr (eqY_putR _ 0 _ 36))) (fun j hj => putR_at _ 18 0 _ hj) (by rw [← ef]; exact hf)
                      · try simp (disch := omega) only [nI_ltI, nI_leI, nI_eq, bI_0, Decidable.not_not, lc_lt, lc_gt, lc_ge, lc_le, lc_eq, i64_toInt] at c55
                        try simp (disch := omega) only [cv_lt, cv_le, cv_eq, nI_toInt, cv_0] at c55
                        first
                        | omega
                        | refine r_iload4 hR dX8_soonest_58 ?_
                          refine r_iret hR dX8_soonest_60 ?_
                          have ef : firstN (fun d => decide (waysN 99 (aS A) t d ce ≤ k)) (j + 1) i = i := by
                            unfold firstN
                            rw [if_pos (by simp only [decide_eq_true_eq]; omega)]
                          refine Qm_eqY hY hc ?_
                          rw [e, ← hf, ef, if_neg (by omega)]
              refine r_aload0 hR dX8_soonest_33 ?_
              refine r_iload1 hR dX8_soonest_34 ?_
              refine r_cv1u hR kv_X8_133 (by decide) (t_X8_begins h hwf htt) (by first | decide | assumption | (simp only [gcnt_4, gcnt_1, gcnt_2, gcnt_3, gcnt_12, gcnt_13, gcnt_16]; omega)) rfl rfl (Nat.le_of_ble_eq_true rfl) dX8_soonest_35 ?_
              refine r_iconst hR (nI 0) (by decide) dX8_soonest_38 ?_
              refine r_istore4 hR (fun _ h => by first | (cases h; rfl) | exact absurd h (by simp)) dX8_soonest_39 ?_
              exact L 31 0 _ (by omega) (eqY_putR M 0 _ 36) (fun j hj => putR_at M 18 0 _ hj) rfl
          · try simp (disch := omega) only [nI_ltI, nI_leI, nI_eq, bI_0, Decidable.not_not, lc_lt, lc_gt, lc_ge, lc_le, lc_eq, i64_toInt] at c23
            try simp (disch := omega) only [cv_lt, cv_le, cv_eq, nI_toInt, cv_0] at c23
            first
            | omega
            | refine r_aload0 hR dX8_soonest_26 ?_
              refine r_ldc hR ct_X8_41 dX8_soonest_27 ?_
              refine r_cv1v hR kv_X8_43 (by decide) (t_X8_findsC (n := 0) (by decide) (by decide)) (by first | decide | assumption | (simp only [gcnt_4, gcnt_1, gcnt_2, gcnt_3, gcnt_12, gcnt_13, gcnt_16]; omega)) rfl rfl (Nat.le_of_ble_eq_true rfl) dX8_soonest_29 ?_
              refine r_iret hR dX8_soonest_32 ?_
              refine Qm_fnd hc (by decide) ?_
              unfold oSoonest
              dsimp only [okI, okT]
              (repeat' split) <;> first | rfl | omega

set_option maxHeartbeats 4000000 in
set_option maxRecDepth 100000 in
theorem t_X8_reach {G : gG} {M : gM} {A : gA} {x y : Int32} (hc : mdlP M A) (hw : wfA A) : Ct G mX8_reach 5 [.ref (ad G 15 0), .int x, .int y] M (QmL M (oReach A x y)) := by
  obtain ⟨hwf, hday, hwk, hk2, hl, hT, hsh⟩ := id hw
  obtain ⟨w0, w1, w2, w3, wr, wt⟩ := id hwf
  obtain ⟨h, hKp, hkk, hlp, htp, hshp, hfp⟩ := id hc
  refine Ct.of (by decide +kernel) (k := 3) (ls0 := [some (.ref (ad G 15 0)), some (.int x), some (.int y), none, none, none]) rfl rfl (fun _ _ => trivial) ?_
  intro P hR
  refine r_aload0 hR dX8_reach_0 ?_
  refine r_iload1 hR dX8_reach_1 ?_
  refine r_cv1v hR kv_X8_97 (by decide) (t_X8_isThing h w3) (by first | decide | assumption | (simp only [gcnt_4, gcnt_1, gcnt_2, gcnt_3, gcnt_12, gcnt_13, gcnt_16]; omega)) rfl rfl (Nat.le_of_ble_eq_true rfl) dX8_reach_2 ?_
  refine r_if_eq hR 19 dX8_reach_5 (by decide) (fun c5 => ?_) (fun c5 => ?_)
  · try simp (disch := omega) only [nI_ltI, nI_leI, nI_eq, bI_0, Decidable.not_not, lc_lt, lc_gt, lc_ge, lc_le, lc_eq, i64_toInt] at c5
    try simp (disch := omega) only [cv_lt, cv_le, cv_eq, nI_toInt, cv_0] at c5
    first
    | omega
    | refine r_aload0 hR dX8_reach_19 ?_
      refine r_ldc hR ct_X8_41 dX8_reach_20 ?_
      refine r_cv1v hR kv_X8_43 (by decide) (t_X8_findsC (n := 0) (by decide) (by decide)) (by first | decide | assumption | (simp only [gcnt_4, gcnt_1, gcnt_2, gcnt_3, gcnt_12, gcnt_13, gcnt_16]; omega)) rfl rfl (Nat.le_of_ble_eq_true rfl) dX8_reach_22 ?_
      refine r_i2l hR dX8_reach_25 ?_
      refine r_lret hR dX8_reach_26 ?_
      have e : oReach A x y = fndL A 0 := by
        unfold oReach
        rw [if_neg (by dsimp only [okI, okT]; omega)]
        rfl
      unfold QmL
      rw [e]
      exact ⟨rfl, mdlP_fnd hc (by decide), keepC_seti M 0 0 _ (by decide)⟩
  · try simp (disch := omega) only [nI_ltI, nI_leI, nI_eq, bI_0, Decidable.not_not, lc_lt, lc_gt, lc_ge, lc_le, lc_eq, i64_toInt] at c5
    try simp (disch := omega) only [cv_lt, cv_le, cv_eq, nI_toInt, cv_0] at c5
    first
    | omega
    | refine r_iload2 hR dX8_reach_8 ?_
      refine r_i2l hR dX8_reach_9 ?_
      refine r_iconst hR (nI 0) (by decide) dX8_reach_10 ?_
      refine r_bipush hR (nI 30) (by decide) dX8_reach_11 ?_
      refine r_cs3v hR ks_X8_47 (by decide) (t_X8_in) (Nat.le_of_ble_eq_true rfl) dX8_reach_13 ?_
      refine r_if_ne hR 27 dX8_reach_16 (by decide) (fun c16 => ?_) (fun c16 => ?_)
      · try simp (disch := omega) only [nI_ltI, nI_leI, nI_eq, bI_0, Decidable.not_not, lc_lt, lc_gt, lc_ge, lc_le, lc_eq, i64_toInt] at c16
        try simp (disch := omega) only [cv_lt, cv_le, cv_eq, nI_toInt, cv_0] at c16
        first
        | omega
        | obtain ⟨n, hn, rfl⟩ := of_in (x := y) (N := 30) (by omega)
          obtain ⟨t, ht0, rfl⟩ := of_in (x := x) (N := aS A 3 - 1) (by omega)
          have htt : t < aS A 3 := by rw [nI_toInt (by omega)] at c5; omega
          have e : oReach A (nI t) (nI n) = (lN (reaP 99 (waysN 99 (aS A) t n) 36), A) := by
            unfold oReach
            rw [if_pos (by simp (disch := omega) only [okI, okT, nI_toInt]; omega)]
            simp (disch := omega) only [uN_nI]
          have L : ∀ (j i : Nat) (N : gM), i + j = n → eqY M N → (∀ j, j < 36 → N.1 18 0 j = nI (waysN 99 (aS A) t i j)) → P 34 [some (.ref (ad G 15 0)), some (.int (nI t)), some (.int (nI n)), some (.int (nI i)), none, none] [] N := by
            intro j
            induction j with
            | zero =>
              intro i N hij hY hKN
              have hN := rowP_eqY hY h
              have hwl := ways_le 99 (aS A) t (i + 1)
              have hwi := ways_le 99 (aS A) t i
              refine r_iload3 hR dX8_reach_34 ?_
              refine r_iload2 hR dX8_reach_35 ?_
              refine r_icmp_ge hR 58 dX8_reach_36 (by decide) (fun c36 => ?_) (fun c36 => ?_)
              · try simp (disch := omega) only [nI_ltI, nI_leI, nI_eq, bI_0, Decidable.not_not, lc_lt, lc_gt, lc_ge, lc_le, lc_eq, i64_toInt] at c36
                try simp (disch := omega) only [cv_lt, cv_le, cv_eq, nI_toInt, cv_0] at c36
                first
                | omega
                | obtain rfl : n = i := by omega
                  have L2 : ∀ (j i : Nat), i + j = 36 → P 63 [some (.ref (ad G 15 0)), some (.int (nI t)), some (.int (nI n)), some (.long (lN (reaP 99 (waysN 99 (aS A) t n) i))), none, some (.int (nI i))] [] N := by
                    intro j
                    induction j with
                    | zero =>
                      intro i  hij 
                      refine r_iload5 hR dX8_reach_63 ?_
                      refine r_bipush hR (nI 36) (by decide) dX8_reach_65 ?_
                      refine r_icmp_ge hR 99 dX8_reach_67 (by decide) (fun c67 => ?_) (fun c67 => ?_)
                      · try simp (disch := omega) only [nI_ltI, nI_leI, nI_eq, bI_0, Decidable.not_not, lc_lt, lc_gt, lc_ge, lc_le, lc_eq, i64_toInt] at c67
                        try simp (disch := omega) only [cv_lt, cv_le, cv_eq, nI_toInt, cv_0] at c67
                        first
                        | omega
                        | refine r_lload3 hR dX8_reach_99 ?_
                          refine r_lret hR dX8_reach_100 ?_
                          first
                          | omega
                          | (obtain rfl : i = 36 := by omega
                             unfold QmL
                             rw [e]
                             exact ⟨rfl, mdlP_eqY hY hc, hY.keepC⟩)
                      · try simp (disch := omega) only [nI_ltI, nI_leI, nI_eq, bI_0, Decidable.not_not, lc_lt, lc_gt, lc_ge, lc_le, lc_eq, i64_toInt] at c67
                        try simp (disch := omega) only [cv_lt, cv_le, cv_eq, nI_toInt, cv_0] at c67
                        first
                        | omega
                        | refine r_lload3 hR dX8_reach_70 ?_
                          refine r_aload0 hR dX8_reach_71 ?_
                          refine r_get hR (by first | decide | assumption | (simp only [gcnt_4, gcnt_1, gcnt_2, gcnt_3, gcnt_12, gcnt_13, gcnt_16]; omega)) fl_X8_22 rfl rfl dX8_reach_72 ?_
                          refine r_iload5 hR dX8_reach_75 ?_
                          refine r_iald hR (by first | decide | assumption | (simp only [gcnt_4, gcnt_1, gcnt_2, gcnt_3, gcnt_12, gcnt_13, gcnt_16]; omega)) rfl rfl (by omega) (by decide) dX8_reach_77 ?_
                          rw [hKN i (by omega)]
                          have hwi := ways_le 99 (aS A) t n i
                          refine r_bipush hR (nI 99) (by decide) dX8_reach_78 ?_
                          refine r_icmp_ge hR 90 dX8_reach_80 (by decide) (fun c80 => ?_) (fun c80 => ?_)
                          · try simp (disch := omega) only [nI_ltI, nI_leI, nI_eq, bI_0, Decidable.not_not, lc_lt, lc_gt, lc_ge, lc_le, lc_eq, i64_toInt] at c80
                            try simp (disch := omega) only [cv_lt, cv_le, cv_eq, nI_toInt, cv_0] at c80
                            first
                            | omega
                            | refine r_lconst hR (lN 0) (by decide) dX8_reach_90 ?_
                              refine r_lor hR dX8_reach_91 ?_
                              rw [nx_orL]
                              refine r_lstore3 hR (fun _ h => by first | (cases h; rfl) | exact absurd h (by simp)) dX8_reach_92 ?_
                              refine r_iinc5 hR (nI 1) (by decide) (fun _ h => by first | (cases h; rfl) | exact absurd h (by simp)) dX8_reach_93 ?_
                              try rw [nI_add]
                              refine r_goto hR 63 dX8_reach_96 (by decide) ?_
                              omega
                          · try simp (disch := omega) only [nI_ltI, nI_leI, nI_eq, bI_0, Decidable.not_not, lc_lt, lc_gt, lc_ge, lc_le, lc_eq, i64_toInt] at c80
                            try simp (disch := omega) only [cv_lt, cv_le, cv_eq, nI_toInt, cv_0] at c80
                            first
                            | omega
                            | refine r_lconst hR 1 (by decide) dX8_reach_83 ?_
                              refine r_iload5 hR dX8_reach_84 ?_
                              refine r_lshl hR dX8_reach_86 ?_
                              rw [shlL_t i (by omega)]
                              refine r_goto hR 91 dX8_reach_87 (by decide) ?_
                              refine r_lor hR dX8_reach_91 ?_
                              rw [nx_orL]
                              refine r_lstore3 hR (fun _ h => by first | (cases h; rfl) | exact absurd h (by simp)) dX8_reach_92 ?_
                              refine r_iinc5 hR (nI 1) (by decide) (fun _ h => by first | (cases h; rfl) | exact absurd h (by simp)) dX8_reach_93 ?_
                              try rw [nI_add]
                              refine r_goto hR 63 dX8_reach_96 (by decide) ?_
                              omega
                    | succ j ih =>
                      intro i  hij 
                      refine r_iload5 hR dX8_reach_63 ?_
                      refine r_bipush hR (nI 36) (by decide) dX8_reach_65 ?_
                      refine r_icmp_ge hR 99 dX8_reach_67 (by decide) (fun c67 => ?_) (fun c67 => ?_)
                      · try simp (disch := omega) only [nI_ltI, nI_leI, nI_eq, bI_0, Decidable.not_not, lc_lt, lc_gt, lc_ge, lc_le, lc_eq, i64_toInt] at c67
                        try simp (disch := omega) only [cv_lt, cv_le, cv_eq, nI_toInt, cv_0] at c67
                        first
                        | omega
                        | refine r_lload3 hR dX8_reach_99 ?_
                          refine r_lret hR dX8_reach_100 ?_
                          first
                          | omega
                          | (obtain rfl : i = 36 := by omega
                             unfold QmL
                             rw [e]
                             exact ⟨rfl, mdlP_eqY hY hc, hY.keepC⟩)
                      · try simp (disch := omega) only [nI_ltI, nI_leI, nI_eq, bI_0, Decidable.not_not, lc_lt, lc_gt, lc_ge, lc_le, lc_eq, i64_toInt] at c67
                        try simp (disch := omega) only [cv_lt, cv_le, cv_eq, nI_toInt, cv_0] at c67
                        first
                        | omega
                        | refine r_lload3 hR dX8_reach_70 ?_
                          refine r_aload0 hR dX8_reach_71 ?_
                          refine r_get hR (by first | decide | assumption | (simp only [gcnt_4, gcnt_1, gcnt_2, gcnt_3, gcnt_12, gcnt_13, gcnt_16]; omega)) fl_X8_22 rfl rfl dX8_reach_72 ?_
                          refine r_iload5 hR dX8_reach_75 ?_
                          refine r_iald hR (by first | decide | assumption | (simp only [gcnt_4, gcnt_1, gcnt_2, gcnt_3, gcnt_12, gcnt_13, gcnt_16]; omega)) rfl rfl (by omega) (by decide) dX8_reach_77 ?_
                          rw [hKN i (by omega)]
                          have hwi := ways_le 99 (aS A) t n i
                          refine r_bipush hR (nI 99) (by decide) dX8_reach_78 ?_
                          refine r_icmp_ge hR 90 dX8_reach_80 (by decide) (fun c80 => ?_) (fun c80 => ?_)
                          · try simp (disch := omega) only [nI_ltI, nI_leI, nI_eq, bI_0, Decidable.not_not, lc_lt, lc_gt, lc_ge, lc_le, lc_eq, i64_toInt] at c80
                            try simp (disch := omega) only [cv_lt, cv_le, cv_eq, nI_toInt, cv_0] at c80
                            first
                            | omega
                            | refine r_lconst hR (lN 0) (by decide) dX8_reach_90 ?_
                              refine r_lor hR dX8_reach_91 ?_
                              rw [nx_orL]
                              refine r_lstore3 hR (fun _ h => by first | (cases h; rfl) | exact absurd h (by simp)) dX8_reach_92 ?_
                              refine r_iinc5 hR (nI 1) (by decide) (fun _ h => by first | (cases h; rfl) | exact absurd h (by simp)) dX8_reach_93 ?_
                              try rw [nI_add]
                              refine r_goto hR 63 dX8_reach_96 (by decide) ?_
                              have es : reaP 99 (waysN 99 (aS A) t n) (i + 1) = reaP 99 (waysN 99 (aS A) t n) i ||| (if (waysN 99 (aS A) t n) i < 99 then 2 ^ i else 0) := rfl
                              first
                              | (rw [if_pos (by omega)] at es; rw [← es]; exact ih (i + 1) (by omega))
                              | (rw [if_neg (by omega)] at es; rw [← es]; exact ih (i + 1) (by omega))
                          · try simp (disch := omega) only [nI_ltI, nI_leI, nI_eq, bI_0, Decidable.not_not, lc_lt, lc_gt, lc_ge, lc_le, lc_eq, i64_toInt] at c80
                            try simp (disch := omega) only [cv_lt, cv_le, cv_eq, nI_toInt, cv_0] at c80
                            first
                            | omega
                            | refine r_lconst hR 1 (by decide) dX8_reach_83 ?_
                              refine r_iload5 hR dX8_reach_84 ?_
                              refine r_lshl hR dX8_reach_86 ?_
                              rw [shlL_t i (by omega)]
                              refine r_goto hR 91 dX8_reach_87 (by decide) ?_
                              refine r_lor hR dX8_reach_91 ?_
                              rw [nx_orL]
                              refine r_lstore3 hR (fun _ h => by first | (cases h; rfl) | exact absurd h (by simp)) dX8_reach_92 ?_
                              refine r_iinc5 hR (nI 1) (by decide) (fun _ h => by first | (cases h; rfl) | exact absurd h (by simp)) dX8_reach_93 ?_
                              try rw [nI_add]
                              refine r_goto hR 63 dX8_reach_96 (by decide) ?_
                              have es : reaP 99 (waysN 99 (aS A) t n) (i + 1) = reaP 99 (waysN 99 (aS A) t n) i ||| (if (waysN 99 (aS A) t n) i < 99 then 2 ^ i else 0) := rfl
                              first
                              | (rw [if_pos (by omega)] at es; rw [← es]; exact ih (i + 1) (by omega))
                              | (rw [if_neg (by omega)] at es; rw [← es]; exact ih (i + 1) (by omega))
                  refine r_lconst hR (lN 0) (by decide) dX8_reach_58 ?_
                  refine r_lstore3 hR (fun _ h => by first | (cases h; rfl) | exact absurd h (by simp)) dX8_reach_59 ?_
                  refine r_iconst hR (nI 0) (by decide) dX8_reach_60 ?_
                  refine r_istore5 hR (fun _ h => by first | (cases h; rfl) | exact absurd h (by simp)) dX8_reach_61 ?_
                  exact L2 36 0 rfl
              · try simp (disch := omega) only [nI_ltI, nI_leI, nI_eq, bI_0, Decidable.not_not, lc_lt, lc_gt, lc_ge, lc_le, lc_eq, i64_toInt] at c36
                try simp (disch := omega) only [cv_lt, cv_le, cv_eq, nI_toInt, cv_0] at c36
                first
                | omega
                | refine r_aload0 hR dX8_reach_39 ?_
                  refine r_iload1 hR dX8_reach_40 ?_
                  refine r_aload0 hR dX8_reach_41 ?_
                  refine r_get hR (by first | decide | assumption | (simp only [gcnt_4, gcnt_1, gcnt_2, gcnt_3, gcnt_12, gcnt_13, gcnt_16]; omega)) fl_X8_9 rfl rfl dX8_reach_42 ?_
                  refine r_iconst hR (nI 0) (by decide) dX8_reach_45 ?_
                  refine r_iald hR (by first | decide | assumption | (simp only [gcnt_4, gcnt_1, gcnt_2, gcnt_3, gcnt_12, gcnt_13, gcnt_16]; omega)) rfl rfl (by omega) (by decide) dX8_reach_46 ?_
                  rw [hN 0 (by omega)]
                  refine r_iload3 hR dX8_reach_47 ?_
                  refine r_iadd hR dX8_reach_48 ?_
                  try rw [nI_add]
                  refine r_cv2u hR kv_X8_136 (by decide) (t_X8_dayOn (rowP_eqY hY h) hwf htt (by omega) hKN (ways_le 99 (aS A) t i)) (by first | decide | assumption | (simp only [gcnt_4, gcnt_1, gcnt_2, gcnt_3, gcnt_12, gcnt_13, gcnt_16]; omega)) rfl rfl (Nat.le_of_ble_eq_true rfl) dX8_reach_49 ?_
                  refine r_iinc3 hR (nI 1) (by decide) (fun _ h => by first | (cases h; rfl) | exact absurd h (by simp)) dX8_reach_52 ?_
                  try rw [nI_add]
                  refine r_goto hR 34 dX8_reach_55 (by decide) ?_
                  omega
            | succ j ih =>
              intro i N hij hY hKN
              have hN := rowP_eqY hY h
              have hwl := ways_le 99 (aS A) t (i + 1)
              have hwi := ways_le 99 (aS A) t i
              refine r_iload3 hR dX8_reach_34 ?_
              refine r_iload2 hR dX8_reach_35 ?_
              refine r_icmp_ge hR 58 dX8_reach_36 (by decide) (fun c36 => ?_) (fun c36 => ?_)
              · try simp (disch := omega) only [nI_ltI, nI_leI, nI_eq, bI_0, Decidable.not_not, lc_lt, lc_gt, lc_ge, lc_le, lc_eq, i64_toInt] at c36
                try simp (disch := omega) only [cv_lt, cv_le, cv_eq, nI_toInt, cv_0] at c36
                first
                | omega
                | obtain rfl : n = i := by omega
                  have L2 : ∀ (j i : Nat), i + j = 36 → P 63 [some (.ref (ad G 15 0)), some (.int (nI t)), some (.int (nI n)), some (.long (lN (reaP 99 (waysN 99 (aS A) t n) i))), none, some (.int (nI i))] [] N := by
                    intro j
                    induction j with
                    | zero =>
                      intro i  hij 
                      refine r_iload5 hR dX8_reach_63 ?_
                      refine r_bipush hR (nI 36) (by decide) dX8_reach_65 ?_
                      refine r_icmp_ge hR 99 dX8_reach_67 (by decide) (fun c67 => ?_) (fun c67 => ?_)
                      · try simp (disch := omega) only [nI_ltI, nI_leI, nI_eq, bI_0, Decidable.not_not, lc_lt, lc_gt, lc_ge, lc_le, lc_eq, i64_toInt] at c67
                        try simp (disch := omega) only [cv_lt, cv_le, cv_eq, nI_toInt, cv_0] at c67
                        first
                        | omega
                        | refine r_lload3 hR dX8_reach_99 ?_
                          refine r_lret hR dX8_reach_100 ?_
                          first
                          | omega
                          | (obtain rfl : i = 36 := by omega
                             unfold QmL
                             rw [e]
                             exact ⟨rfl, mdlP_eqY hY hc, hY.keepC⟩)
                      · try simp (disch := omega) only [nI_ltI, nI_leI, nI_eq, bI_0, Decidable.not_not, lc_lt, lc_gt, lc_ge, lc_le, lc_eq, i64_toInt] at c67
                        try simp (disch := omega) only [cv_lt, cv_le, cv_eq, nI_toInt, cv_0] at c67
                        first
                        | omega
                        | refine r_lload3 hR dX8_reach_70 ?_
                          refine r_aload0 hR dX8_reach_71 ?_
                          refine r_get hR (by first | decide | assumption | (simp only [gcnt_4, gcnt_1, gcnt_2, gcnt_3, gcnt_12, gcnt_13, gcnt_16]; omega)) fl_X8_22 rfl rfl dX8_reach_72 ?_
                          refine r_iload5 hR dX8_reach_75 ?_
                          refine r_iald hR (by first | decide | assumption | (simp only [gcnt_4, gcnt_1, gcnt_2, gcnt_3, gcnt_12, gcnt_13, gcnt_16]; omega)) rfl rfl (by omega) (by decide) dX8_reach_77 ?_
                          rw [hKN i (by omega)]
                          have hwi := ways_le 99 (aS A) t n i
                          refine r_bipush hR (nI 99) (by decide) dX8_reach_78 ?_
                          refine r_icmp_ge hR 90 dX8_reach_80 (by decide) (fun c80 => ?_) (fun c80 => ?_)
                          · try simp (disch := omega) only [nI_ltI, nI_leI, nI_eq, bI_0, Decidable.not_not, lc_lt, lc_gt, lc_ge, lc_le, lc_eq, i64_toInt] at c80
                            try simp (disch := omega) only [cv_lt, cv_le, cv_eq, nI_toInt, cv_0] at c80
                            first
                            | omega
                            | refine r_lconst hR (lN 0) (by decide) dX8_reach_90 ?_
                              refine r_lor hR dX8_reach_91 ?_
                              rw [nx_orL]
                              refine r_lstore3 hR (fun _ h => by first | (cases h; rfl) | exact absurd h (by simp)) dX8_reach_92 ?_
                              refine r_iinc5 hR (nI 1) (by decide) (fun _ h => by first | (cases h; rfl) | exact absurd h (by simp)) dX8_reach_93 ?_
                              try rw [nI_add]
                              refine r_goto hR 63 dX8_reach_96 (by decide) ?_
                              omega
                          · try simp (disch := omega) only [nI_ltI, nI_leI, nI_eq, bI_0, Decidable.not_not, lc_lt, lc_gt, lc_ge, lc_le, lc_eq, i64_toInt] at c80
                            try simp (disch := omega) only [cv_lt, cv_le, cv_eq, nI_toInt, cv_0] at c80
                            first
                            | omega
                            | refine r_lconst hR 1 (by decide) dX8_reach_83 ?_
                              refine r_iload5 hR dX8_reach_84 ?_
                              refine r_lshl hR dX8_reach_86 ?_
                              rw [shlL_t i (by omega)]
                              refine r_goto hR 91 dX8_reach_87 (by decide) ?_
                              refine r_lor hR dX8_reach_91 ?_
                              rw [nx_orL]
                              refine r_lstore3 hR (fun _ h => by first | (cases h; rfl) | exact absurd h (by simp)) dX8_reach_92 ?_
                              refine r_iinc5 hR (nI 1) (by decide) (fun _ h => by first | (cases h; rfl) | exact absurd h (by simp)) dX8_reach_93 ?_
                              try rw [nI_add]
                              refine r_goto hR 63 dX8_reach_96 (by decide) ?_
                              omega
                    | succ j ih =>
                      intro i  hij 
                      refine r_iload5 hR dX8_reach_63 ?_
                      refine r_bipush hR (nI 36) (by decide) dX8_reach_65 ?_
                      refine r_icmp_ge hR 99 dX8_reach_67 (by decide) (fun c67 => ?_) (fun c67 => ?_)
                      · try simp (disch := omega) only [nI_ltI, nI_leI, nI_eq, bI_0, Decidable.not_not, lc_lt, lc_gt, lc_ge, lc_le, lc_eq, i64_toInt] at c67
                        try simp (disch := omega) only [cv_lt, cv_le, cv_eq, nI_toInt, cv_0] at c67
                        first
                        | omega
                        | refine r_lload3 hR dX8_reach_99 ?_
                          refine r_lret hR dX8_reach_100 ?_
                          first
                          | omega
                          | (obtain rfl : i = 36 := by omega
                             unfold QmL
                             rw [e]
                             exact ⟨rfl, mdlP_eqY hY hc, hY.keepC⟩)
                      · try simp (disch := omega) only [nI_ltI, nI_leI, nI_eq, bI_0, Decidable.not_not, lc_lt, lc_gt, lc_ge, lc_le, lc_eq, i64_toInt] at c67
                        try simp (disch := omega) only [cv_lt, cv_le, cv_eq, nI_toInt, cv_0] at c67
                        first
                        | omega
                        | refine r_lload3 hR dX8_reach_70 ?_
                          refine r_aload0 hR dX8_reach_71 ?_
                          refine r_get hR (by first | decide | assumption | (simp only [gcnt_4, gcnt_1, gcnt_2, gcnt_3, gcnt_12, gcnt_13, gcnt_16]; omega)) fl_X8_22 rfl rfl dX8_reach_72 ?_
                          refine r_iload5 hR dX8_reach_75 ?_
                          refine r_iald hR (by first | decide | assumption | (simp only [gcnt_4, gcnt_1, gcnt_2, gcnt_3, gcnt_12, gcnt_13, gcnt_16]; omega)) rfl rfl (by omega) (by decide) dX8_reach_77 ?_
                          rw [hKN i (by omega)]
                          have hwi := ways_le 99 (aS A) t n i
                          refine r_bipush hR (nI 99) (by decide) dX8_reach_78 ?_
                          refine r_icmp_ge hR 90 dX8_reach_80 (by decide) (fun c80 => ?_) (fun c80 => ?_)
                          · try simp (disch := omega) only [nI_ltI, nI_leI, nI_eq, bI_0, Decidable.not_not, lc_lt, lc_gt, lc_ge, lc_le, lc_eq, i64_toInt] at c80
                            try simp (disch := omega) only [cv_lt, cv_le, cv_eq, nI_toInt, cv_0] at c80
                            first
                            | omega
                            | refine r_lconst hR (lN 0) (by decide) dX8_reach_90 ?_
                              refine r_lor hR dX8_reach_91 ?_
                              rw [nx_orL]
                              refine r_lstore3 hR (fun _ h => by first | (cases h; rfl) | exact absurd h (by simp)) dX8_reach_92 ?_
                              refine r_iinc5 hR (nI 1) (by decide) (fun _ h => by first | (cases h; rfl) | exact absurd h (by simp)) dX8_reach_93 ?_
                              try rw [nI_add]
                              refine r_goto hR 63 dX8_reach_96 (by decide) ?_
                              have es : reaP 99 (waysN 99 (aS A) t n) (i + 1) = reaP 99 (waysN 99 (aS A) t n) i ||| (if (waysN 99 (aS A) t n) i < 99 then 2 ^ i else 0) := rfl
                              first
                              | (rw [if_pos (by omega)] at es; rw [← es]; exact ih (i + 1) (by omega))
                              | (rw [if_neg (by omega)] at es; rw [← es]; exact ih (i + 1) (by omega))
                          · try simp (disch := omega) only [nI_ltI, nI_leI, nI_eq, bI_0, Decidable.not_not, lc_lt, lc_gt, lc_ge, lc_le, lc_eq, i64_toInt] at c80
                            try simp (disch := omega) only [cv_lt, cv_le, cv_eq, nI_toInt, cv_0] at c80
                            first
                            | omega
                            | refine r_lconst hR 1 (by decide) dX8_reach_83 ?_
                              refine r_iload5 hR dX8_reach_84 ?_
                              refine r_lshl hR dX8_reach_86 ?_
                              rw [shlL_t i (by omega)]
                              refine r_goto hR 91 dX8_reach_87 (by decide) ?_
                              refine r_lor hR dX8_reach_91 ?_
                              rw [nx_orL]
                              refine r_lstore3 hR (fun _ h => by first | (cases h; rfl) | exact absurd h (by simp)) dX8_reach_92 ?_
                              refine r_iinc5 hR (nI 1) (by decide) (fun _ h => by first | (cases h; rfl) | exact absurd h (by simp)) dX8_reach_93 ?_
                              try rw [nI_add]
                              refine r_goto hR 63 dX8_reach_96 (by decide) ?_
                              have es : reaP 99 (waysN 99 (aS A) t n) (i + 1) = reaP 99 (waysN 99 (aS A) t n) i ||| (if (waysN 99 (aS A) t n) i < 99 then 2 ^ i else 0) := rfl
                              first
                              | (rw [if_pos (by omega)] at es; rw [← es]; exact ih (i + 1) (by omega))
                              | (rw [if_neg (by omega)] at es; rw [← es]; exact ih (i + 1) (by omega))
                  refine r_lconst hR (lN 0) (by decide) dX8_reach_58 ?_
                  refine r_lstore3 hR (fun _ h => by first | (cases h; rfl) | exact absurd h (by simp)) dX8_reach_59 ?_
                  refine r_iconst hR (nI 0) (by decide) dX8_reach_60 ?_
                  refine r_istore5 hR (fun _ h => by first | (cases h; rfl) | exact absurd h (by simp)) dX8_reach_61 ?_
                  exact L2 36 0 rfl
              · try simp (disch := omega) only [nI_ltI, nI_leI, nI_eq, bI_0, Decidable.not_not, lc_lt, lc_gt, lc_ge, lc_le, lc_eq, i64_toInt] at c36
                try simp (disch := omega) only [cv_lt, cv_le, cv_eq, nI_toInt, cv_0] at c36
                first
                | omega
                | refine r_aload0 hR dX8_reach_39 ?_
                  refine r_iload1 hR dX8_reach_40 ?_
                  refine r_aload0 hR dX8_reach_41 ?_
                  refine r_get hR (by first | decide | assumption | (simp only [gcnt_4, gcnt_1, gcnt_2, gcnt_3, gcnt_12, gcnt_13, gcnt_16]; omega)) fl_X8_9 rfl rfl dX8_reach_42 ?_
                  refine r_iconst hR (nI 0) (by decide) dX8_reach_45 ?_
                  refine r_iald hR (by first | decide | assumption | (simp only [gcnt_4, gcnt_1, gcnt_2, gcnt_3, gcnt_12, gcnt_13, gcnt_16]; omega)) rfl rfl (by omega) (by decide) dX8_reach_46 ?_
                  rw [hN 0 (by omega)]
                  refine r_iload3 hR dX8_reach_47 ?_
                  refine r_iadd hR dX8_reach_48 ?_
                  try rw [nI_add]
                  refine r_cv2u hR kv_X8_136 (by decide) (t_X8_dayOn (rowP_eqY hY h) hwf htt (by omega) hKN (ways_le 99 (aS A) t i)) (by first | decide | assumption | (simp only [gcnt_4, gcnt_1, gcnt_2, gcnt_3, gcnt_12, gcnt_13, gcnt_16]; omega)) rfl rfl (Nat.le_of_ble_eq_true rfl) dX8_reach_49 ?_
                  refine r_iinc3 hR (nI 1) (by decide) (fun _ h => by first | (cases h; rfl) | exact absurd h (by simp)) dX8_reach_52 ?_
                  try rw [nI_add]
                  refine r_goto hR 34 dX8_reach_55 (by decide) ?_
                  exact ih (i + 1) _ (by omega) (hY.tr ((eqY_putR N 1 _ 36).tr (eqY_putR _ 0 _ 36))) (fun j hj => putR_at _ 18 0 _ hj)
          refine r_aload0 hR dX8_reach_27 ?_
          refine r_iload1 hR dX8_reach_28 ?_
          refine r_cv1u hR kv_X8_133 (by decide) (t_X8_begins h hwf htt) (by first | decide | assumption | (simp only [gcnt_4, gcnt_1, gcnt_2, gcnt_3, gcnt_12, gcnt_13, gcnt_16]; omega)) rfl rfl (Nat.le_of_ble_eq_true rfl) dX8_reach_29 ?_
          refine r_iconst hR (nI 0) (by decide) dX8_reach_32 ?_
          refine r_istore3 hR (fun _ h => by first | (cases h; rfl) | exact absurd h (by simp)) dX8_reach_33 ?_
          exact L n 0 _ (by omega) (eqY_putR M 0 _ 36) (fun j hj => putR_at M 18 0 _ hj)
      · try simp (disch := omega) only [nI_ltI, nI_leI, nI_eq, bI_0, Decidable.not_not, lc_lt, lc_gt, lc_ge, lc_le, lc_eq, i64_toInt] at c16
        try simp (disch := omega) only [cv_lt, cv_le, cv_eq, nI_toInt, cv_0] at c16
        first
        | omega
        | refine r_aload0 hR dX8_reach_19 ?_
          refine r_ldc hR ct_X8_41 dX8_reach_20 ?_
          refine r_cv1v hR kv_X8_43 (by decide) (t_X8_findsC (n := 0) (by decide) (by decide)) (by first | decide | assumption | (simp only [gcnt_4, gcnt_1, gcnt_2, gcnt_3, gcnt_12, gcnt_13, gcnt_16]; omega)) rfl rfl (Nat.le_of_ble_eq_true rfl) dX8_reach_22 ?_
          refine r_i2l hR dX8_reach_25 ?_
          refine r_lret hR dX8_reach_26 ?_
          have e : oReach A x y = fndL A 0 := by
            unfold oReach
            rw [if_neg (by dsimp only [okI, okT]; omega)]
            rfl
          unfold QmL
          rw [e]
          exact ⟨rfl, mdlP_fnd hc (by decide), keepC_seti M 0 0 _ (by decide)⟩

