set_option maxHeartbeats 4000000 in
set_option maxRecDepth 100000 in
theorem t_X7_feed {G : gG} {M : gM} {A : gA} {x y : Int32} (hc : clsP M A) (hw : wfA A) : Ct G mX7_feed 2 [.ref (ad G 0 0), .int x, .int y] M (Qc M (oFeed A x y)) := by
  obtain ⟨hwf, hday, hwk, hk2, hl, hT, hsh⟩ := id hw
  obtain ⟨w0, w1, w2, w3, wr, wt⟩ := id hwf
  obtain ⟨s0, s2, s3, s4, sr, sth⟩ := id hc.1
  have hK8 : ak A = 1 → aK A 3 ≤ 8 := fun z => (hwk z).1.2.2.2.1
  refine Ct.of (by decide +kernel) (k := 1) (ls0 := [some (.ref (ad G 0 0)), some (.int x), some (.int y), none]) rfl rfl (fun _ _ => trivial) ?_
  intro P hR
  have hc3 := hc.2.2.1
  have hc4 := hc.2.2.2.1
  have hc5 := hc.2.2.2.2.1
  have hc6 := hc.2.2.2.2.2.1
  have hc7 := hc.2.2.2.2.2.2
  refine r_iload2 hR dX7_feed_0 ?_
  refine r_iconst hR (nI 4) (by decide) dX7_feed_1 ?_
  refine r_cs2v hR ks_X7_157 (by decide) (t_X7_isSpan) (Nat.le_of_ble_eq_true rfl) dX7_feed_2 ?_
  refine r_if_ne hR 15 dX7_feed_5 (by decide) (fun c5 => ?_) (fun c5 => ?_)
  · try simp (disch := omega) only [nI_ltI, nI_leI, nI_eq, bI_0, Decidable.not_not, lc_lt, lc_gt, lc_ge, lc_le, lc_eq, i64_toInt] at c5
    try simp (disch := omega) only [cv_lt, cv_le, cv_eq, nI_toInt, cv_0] at c5
    first
    | omega
    | obtain ⟨n, hn, rfl⟩ := of_in (x := y) (N := 4) (by omega)
      simp (disch := omega) only [nI_toInt] at c5
      have e : oFeed A x (nI n) = if 120 < al A + n then fnd A 1 else (nI (al A + n), sT A (fun j => if al A ≤ j ∧ j < al A + n then x.toBitVec.toNat / 2 ^ (8 * (n - 1 - (j - al A))) % 256 else aT A j) (al A + n)) := by
        unfold oFeed
        rw [if_pos (by simp (disch := omega) only [okI, nI_toInt]; omega)]
        simp (disch := omega) only [uN_nI]
      refine r_aload0 hR dX7_feed_15 ?_
      refine r_get hR (by first | decide | assumption | (simp only [gcnt_4, gcnt_1, gcnt_2, gcnt_3, gcnt_12, gcnt_13, gcnt_16]; omega)) fl_X7_53 rfl rfl dX7_feed_16 ?_
      try simp only [s0, s2, s3, s4, hc4, hc3]
      refine r_get hR (by first | decide | assumption | (simp only [gcnt_4, gcnt_1, gcnt_2, gcnt_3, gcnt_12, gcnt_13, gcnt_16]; omega)) fl_X7_220 rfl rfl dX7_feed_19 ?_
      try simp only [s0, s2, s3, s4, hc4, hc3]
      refine r_iload2 hR dX7_feed_22 ?_
      refine r_iadd hR dX7_feed_23 ?_
      try rw [nI_add]
      refine r_bipush hR (nI 120) (by decide) dX7_feed_24 ?_
      refine r_icmp_le hR 36 dX7_feed_26 (by decide) (fun c26 => ?_) (fun c26 => ?_)
      · try simp (disch := omega) only [nI_ltI, nI_leI, nI_eq, bI_0, Decidable.not_not, lc_lt, lc_gt, lc_ge, lc_le, lc_eq, i64_toInt] at c26
        try simp (disch := omega) only [cv_lt, cv_le, cv_eq, nI_toInt, cv_0] at c26
        first
        | omega
        | have L : ∀ (j i : Nat) (x3 : Int32) (N : gM), i + j = n → x3 = nI (n - i) + (-1) → (∀ r, ¬ r = 8 → ¬ r = 9 → N.1 r = M.1 r) → N.2 = M.2 → N.1 8 0 1 = nI (al A + i) → (∀ j, j < al A + i → N.1 9 0 j = nI ((fun j => if al A ≤ j ∧ j < al A + n then x.toBitVec.toNat / 2 ^ (8 * (n - 1 - (j - al A))) % 256 else aT A j) j)) → P 40 [some (.ref (ad G 0 0)), some (.int x), some (.int (nI n)), some (.int x3)] [] N := by
            intro j
            induction j with
            | zero =>
              intro i x3 N hij hx3 hNr hN2 hN1 hNT
              have hin : i = n := by omega
              subst hin
              rw [Nat.sub_self, show nI 0 + (-1 : Int32) = -1 from by decide] at hx3
              subst hx3
              have hm1 : (-1 : Int32).toInt = -1 := by decide
              refine r_iload3 hR dX7_feed_40 ?_
              refine r_if_lt hR 67 dX7_feed_41 (by decide) (fun c41 => ?_) (fun c41 => absurd (show (-1 : Int32) < nI 0 by decide) c41)
              refine r_aload0 hR dX7_feed_67 ?_
              refine r_get hR (by first | decide | assumption | (simp only [gcnt_4, gcnt_1, gcnt_2, gcnt_3, gcnt_12, gcnt_13, gcnt_16]; omega)) fl_X7_53 rfl rfl dX7_feed_68 ?_
              try simp only [hN1]
              refine r_get hR (by first | decide | assumption | (simp only [gcnt_4, gcnt_1, gcnt_2, gcnt_3, gcnt_12, gcnt_13, gcnt_16]; omega)) fl_X7_220 rfl rfl dX7_feed_71 ?_
              try simp only [hN1]
              refine r_iret hR dX7_feed_74 ?_
              rw [e, if_neg (by omega)]
              exact ⟨rfl, clsP_tape hc hNr hN2 hN1 hNT, fun r hr => ⟨hNr r (by omega) (by omega), by rw [hN2]⟩⟩
            | succ j ih =>
              intro i x3 N hij hx3 hNr hN2 hN1 hNT
              obtain ⟨k, hk⟩ : ∃ k, n - i = k + 1 := ⟨n - i - 1, by omega⟩
              rw [hk, pk_m1] at hx3
              subst hx3
              refine r_iload3 hR dX7_feed_40 ?_
              refine r_if_lt hR 67 dX7_feed_41 (by decide) (fun c41 => ?_) (fun c41 => ?_)
              · try simp (disch := omega) only [nI_ltI, nI_leI, nI_eq, bI_0, Decidable.not_not, lc_lt, lc_gt, lc_ge, lc_le, lc_eq, i64_toInt] at c41
                try simp (disch := omega) only [cv_lt, cv_le, cv_eq, nI_toInt, cv_0] at c41
                first
                | omega
                | refine r_aload0 hR dX7_feed_67 ?_
                  refine r_get hR (by first | decide | assumption | (simp only [gcnt_4, gcnt_1, gcnt_2, gcnt_3, gcnt_12, gcnt_13, gcnt_16]; omega)) fl_X7_53 rfl rfl dX7_feed_68 ?_
                  try simp only [hN1]
                  refine r_get hR (by first | decide | assumption | (simp only [gcnt_4, gcnt_1, gcnt_2, gcnt_3, gcnt_12, gcnt_13, gcnt_16]; omega)) fl_X7_220 rfl rfl dX7_feed_71 ?_
                  try simp only [hN1]
                  refine r_iret hR dX7_feed_74 ?_
                  omega
              · try simp (disch := omega) only [nI_ltI, nI_leI, nI_eq, bI_0, Decidable.not_not, lc_lt, lc_gt, lc_ge, lc_le, lc_eq, i64_toInt] at c41
                try simp (disch := omega) only [cv_lt, cv_le, cv_eq, nI_toInt, cv_0] at c41
                first
                | omega
                | refine r_aload0 hR dX7_feed_44 ?_
                  refine r_get hR (by first | decide | assumption | (simp only [gcnt_4, gcnt_1, gcnt_2, gcnt_3, gcnt_12, gcnt_13, gcnt_16]; omega)) fl_X7_53 rfl rfl dX7_feed_45 ?_
                  try simp only [hN1]
                  refine r_iload1 hR dX7_feed_48 ?_
                  refine r_bipush hR (nI 8) (by decide) dX7_feed_49 ?_
                  refine r_iload3 hR dX7_feed_51 ?_
                  refine r_imul hR dX7_feed_52 ?_
                  try rw [pk_mul]
                  refine r_ishr hR dX7_feed_53 ?_
                  refine r_sipush hR (nI 255) (by decide) dX7_feed_54 ?_
                  refine r_iand hR dX7_feed_57 ?_
                  rw [byte_t x (show k < 4 by omega)]
                  refine r_cv1u hR kv_X7_223 (by decide) (t_X3_put hN1 (by omega)) (by first | decide | assumption | (simp only [gcnt_4, gcnt_1, gcnt_2, gcnt_3, gcnt_12, gcnt_13, gcnt_16]; omega)) rfl rfl (Nat.le_of_ble_eq_true rfl) dX7_feed_58 ?_
                  refine r_iinc3 hR (-1) (by decide) (fun _ h => by first | (cases h; rfl) | exact absurd h (by simp)) dX7_feed_61 ?_
                  refine r_goto hR 40 dX7_feed_64 (by decide) ?_
                  exact ih (i + 1) _ _ (by omega) (by rw [show n - (i + 1) = k by omega]) (fun r a b => by rw [seti_row _ a, seti_row _ b]; exact hNr r a b) hN2 (by simp [seti_r, Nat.add_assoc]) (fun j hj => by
                    rw [seti_r, if_neg (by omega), seti_r]
                    by_cases q : j = al A + i
                    · rw [if_pos ⟨rfl, rfl, q⟩]
                      show _ = nI (if _ then _ else _)
                      rw [if_pos (by omega), show n - 1 - (j - al A) = k by omega]
                    · rw [if_neg (fun y => q y.2.2)]
                      exact hNT j (by omega))
          refine r_iload2 hR dX7_feed_36 ?_
          refine r_iconst hR (nI 1) (by decide) dX7_feed_37 ?_
          refine r_isub hR dX7_feed_38 ?_
          refine r_istore3 hR (fun _ h => by first | (cases h; rfl) | exact absurd h (by simp)) dX7_feed_39 ?_
          exact L n 0 _ M (by omega) (sub1_e n) (fun r _ _ => rfl) rfl hc4 (fun j hj => by
            show _ = nI (if _ then _ else _)
            rw [if_neg (by omega)]
            exact hc5 j hj)
      · try simp (disch := omega) only [nI_ltI, nI_leI, nI_eq, bI_0, Decidable.not_not, lc_lt, lc_gt, lc_ge, lc_le, lc_eq, i64_toInt] at c26
        try simp (disch := omega) only [cv_lt, cv_le, cv_eq, nI_toInt, cv_0] at c26
        first
        | omega
        | refine r_aload0 hR dX7_feed_29 ?_
          refine r_ldc hR ct_X7_113 dX7_feed_30 ?_
          refine r_cv1v hR kv_X7_82 (by decide) (t_X7_findingC (n := 1) (by decide) (by decide)) (by first | decide | assumption | (simp only [gcnt_4, gcnt_1, gcnt_2, gcnt_3, gcnt_12, gcnt_13, gcnt_16]; omega)) rfl rfl (Nat.le_of_ble_eq_true rfl) dX7_feed_32 ?_
          refine r_iret hR dX7_feed_35 ?_
          rw [e, if_pos (by omega)]
          exact Qc_fnd hc (by decide) rfl
  · try simp (disch := omega) only [nI_ltI, nI_leI, nI_eq, bI_0, Decidable.not_not, lc_lt, lc_gt, lc_ge, lc_le, lc_eq, i64_toInt] at c5
    try simp (disch := omega) only [cv_lt, cv_le, cv_eq, nI_toInt, cv_0] at c5
    first
    | omega
    | refine r_aload0 hR dX7_feed_8 ?_
      refine r_ldc hR ct_X7_81 dX7_feed_9 ?_
      refine r_cv1v hR kv_X7_82 (by decide) (t_X7_findingC (n := 0) (by decide) (by decide)) (by first | decide | assumption | (simp only [gcnt_4, gcnt_1, gcnt_2, gcnt_3, gcnt_12, gcnt_13, gcnt_16]; omega)) rfl rfl (Nat.le_of_ble_eq_true rfl) dX7_feed_11 ?_
      refine r_iret hR dX7_feed_14 ?_
      refine Qc_fnd hc (by decide) ?_
      unfold oFeed
      dsimp only [okI, okT]
      (repeat' split) <;> first | rfl | omega

set_option maxHeartbeats 4000000 in
set_option maxRecDepth 100000 in
theorem t_X7_sheet {G : gG} {M : gM} {A : gA} {x y z : Int32} (hc : clsP M A) (hw : wfA A) : Ct G mX7_sheet 2 [.ref (ad G 0 0), .int x, .int y, .int z] M (Qc M (oSheet A x y z)) := by
  obtain ⟨hwf, hday, hwk, hk2, hl, hT, hsh⟩ := id hw
  obtain ⟨w0, w1, w2, w3, wr, wt⟩ := id hwf
  obtain ⟨s0, s2, s3, s4, sr, sth⟩ := id hc.1
  have hK8 : ak A = 1 → aK A 3 ≤ 8 := fun z => (hwk z).1.2.2.2.1
  refine Ct.of (by decide +kernel) (k := 0) (ls0 := [some (.ref (ad G 0 0)), some (.int x), some (.int y), some (.int z)]) rfl rfl (fun _ _ => trivial) ?_
  intro P hR
  have hc3 := hc.2.2.1
  have hc4 := hc.2.2.2.1
  have hc5 := hc.2.2.2.2.1
  have hc6 := hc.2.2.2.2.2.1
  have hc7 := hc.2.2.2.2.2.2
  refine r_iload1 hR dX7_sheet_0 ?_
  refine r_iconst hR (nI 3) (by decide) dX7_sheet_1 ?_
  refine r_cs2v hR ks_X7_77 (by decide) (t_X7_within) (Nat.le_of_ble_eq_true rfl) dX7_sheet_2 ?_
  refine r_if_eq hR 30 dX7_sheet_5 (by decide) (fun c5 => ?_) (fun c5 => ?_)
  · try simp (disch := omega) only [nI_ltI, nI_leI, nI_eq, bI_0, Decidable.not_not, lc_lt, lc_gt, lc_ge, lc_le, lc_eq, i64_toInt] at c5
    try simp (disch := omega) only [cv_lt, cv_le, cv_eq, nI_toInt, cv_0] at c5
    first
    | omega
    | refine r_aload0 hR dX7_sheet_30 ?_
      refine r_ldc hR ct_X7_81 dX7_sheet_31 ?_
      refine r_cv1v hR kv_X7_82 (by decide) (t_X7_findingC (n := 0) (by decide) (by decide)) (by first | decide | assumption | (simp only [gcnt_4, gcnt_1, gcnt_2, gcnt_3, gcnt_12, gcnt_13, gcnt_16]; omega)) rfl rfl (Nat.le_of_ble_eq_true rfl) dX7_sheet_33 ?_
      refine r_iret hR dX7_sheet_36 ?_
      refine Qc_fnd hc (by decide) ?_
      unfold oSheet
      refine if_neg ?_
      dsimp only [okI]
      simp (disch := omega) only [cv_eq, nI_toInt, cv_0]
      omega
  · try simp (disch := omega) only [nI_ltI, nI_leI, nI_eq, bI_0, Decidable.not_not, lc_lt, lc_gt, lc_ge, lc_le, lc_eq, i64_toInt] at c5
    try simp (disch := omega) only [cv_lt, cv_le, cv_eq, nI_toInt, cv_0] at c5
    first
    | omega
    | obtain ⟨s, hs, rfl⟩ := of_in (x := x) (N := 3) (by omega)
      have J37 : ∀ b : Nat, (b = 0 ∨ b = 8 ∨ b = 16 ∨ b = 64) → y.toInt = b → P 37 [some (.ref (ad G 0 0)), some (.int (nI s)), some (.int y), some (.int z)] [] M := by
        intro b hbb hyb
        refine r_iload3 hR dX7_sheet_37 ?_
        refine r_if_ge hR 48 dX7_sheet_38 (by decide) (fun c38 => ?_) (fun c38 => ?_)
        · try simp (disch := omega) only [nI_ltI, nI_leI, nI_eq, bI_0, Decidable.not_not, lc_lt, lc_gt, lc_ge, lc_le, lc_eq, i64_toInt] at c38
          try simp (disch := omega) only [cv_lt, cv_le, cv_eq, nI_toInt, cv_0] at c38
          first
          | omega
          | refine r_iload3 hR dX7_sheet_48 ?_
            refine r_bipush hR (nI 40) (by decide) dX7_sheet_49 ?_
            refine r_icmp_le hR 61 dX7_sheet_51 (by decide) (fun c51 => ?_) (fun c51 => ?_)
            · try simp (disch := omega) only [nI_ltI, nI_leI, nI_eq, bI_0, Decidable.not_not, lc_lt, lc_gt, lc_ge, lc_le, lc_eq, i64_toInt] at c51
              try simp (disch := omega) only [cv_lt, cv_le, cv_eq, nI_toInt, cv_0] at c51
              first
              | omega
              | obtain ⟨n, hn, rfl⟩ := of_in (x := z) (N := 40) (by omega)
                obtain rfl : y = nI b := by rw [cv_eq, nI_toInt (by omega)]; exact hyb
                have hb9 : b < 100 := by omega
                have e : oSheet A (nI s) (nI b) (nI n) = (nI (if b = 0 then 0 else n), sB A (va_up (ab A) s b) (va_up (az A) s (if b = 0 then 0 else n)) (va_up (an A) s (fun _ => 0))) := by
                  unfold oSheet
                  rw [if_pos (by simp (disch := omega) only [okI, nI_toInt, nI_eq]; omega), if_neg (by rw [nI_toInt (by omega)]; omega), if_neg (by rw [nI_toInt (by omega)]; omega)]
                  simp (disch := omega) only [uN_nI]
                have J77 : P 77 [some (.ref (ad G 0 0)), some (.int (nI s)), some (.int (nI b)), some (.int (nI n))] [.int (nI (if b = 0 then 0 else n)), .int (nI b), .ref (ad G 12 s)] M := by
                  refine r_cv2u hR kv_X7_231 (by decide) (t_X2_begin (by omega)) (by first | decide | assumption | (simp only [gcnt_4, gcnt_1, gcnt_2, gcnt_3, gcnt_12, gcnt_13, gcnt_16]; omega)) rfl rfl (Nat.le_of_ble_eq_true rfl) dX7_sheet_77 ?_
                  refine r_aload0 hR dX7_sheet_80 ?_
                  refine r_get hR (by first | decide | assumption | (simp only [gcnt_4, gcnt_1, gcnt_2, gcnt_3, gcnt_12, gcnt_13, gcnt_16]; omega)) fl_X7_68 rfl rfl dX7_sheet_81 ?_
                  refine r_iload1 hR dX7_sheet_84 ?_
                  refine r_aald hR (t0 := 2) (by first | decide | assumption | (simp only [gcnt_4, gcnt_1, gcnt_2, gcnt_3, gcnt_12, gcnt_13, gcnt_16]; omega)) rfl rfl rfl (by omega) (by decide) rfl dX7_sheet_85 ?_
                  refine r_get hR (by first | decide | assumption | (simp only [gcnt_4, gcnt_1, gcnt_2, gcnt_3, gcnt_12, gcnt_13, gcnt_16]; omega)) fl_X7_233 rfl rfl dX7_sheet_86 ?_
                  refine r_nm (nI (if b = 0 then 0 else n)) (by simp [putL_1, seti_r]) ?_
                  refine r_iret hR dX7_sheet_89 ?_
                  unfold Qc
                  rw [e]
                  refine ⟨rfl, clsP_sh hc (fun r a _ i _ => ?_) w3 hK8 (fun u hu => ?_), ?_⟩
                  · rw [putL_1, seti_row _ a, seti_row _ a]
                  · by_cases q : u = s
                    · subst q
                      exact ⟨by rw [putL_1, seti_r, if_neg (by omega), seti_r, if_pos ⟨rfl, rfl, rfl⟩, vu_s], by rw [putL_1, seti_r, if_pos ⟨rfl, rfl, rfl⟩, vu_s], fun j hj => by rw [putL_r, if_pos ⟨rfl, rfl, hj⟩, vg_s]⟩
                    · exact ⟨by rw [putL_1, seti_r, if_neg (by omega), seti_r, if_neg (by omega), vu_o q]; exact (hc6 u hu).1, by rw [putL_1, seti_r, if_neg (by omega), seti_r, if_neg (by omega), vu_o q]; exact (hc6 u hu).2.1, fun j hj => by rw [putL_r, if_neg (by omega), vg_o q]; exact (hc6 u hu).2.2 j hj⟩
                  · intro r hr
                    refine ⟨by rw [putL_1, seti_row _ (by omega), seti_row _ (by omega)], ?_⟩
                    funext i k
                    rw [putL_r, if_neg (by omega)]
                    rfl
                refine r_aload0 hR dX7_sheet_61 ?_
                refine r_get hR (by first | decide | assumption | (simp only [gcnt_4, gcnt_1, gcnt_2, gcnt_3, gcnt_12, gcnt_13, gcnt_16]; omega)) fl_X7_68 rfl rfl dX7_sheet_62 ?_
                refine r_iload1 hR dX7_sheet_65 ?_
                refine r_aald hR (t0 := 2) (by first | decide | assumption | (simp only [gcnt_4, gcnt_1, gcnt_2, gcnt_3, gcnt_12, gcnt_13, gcnt_16]; omega)) rfl rfl rfl (by omega) (by decide) rfl dX7_sheet_66 ?_
                refine r_iload2 hR dX7_sheet_67 ?_
                refine r_iload2 hR dX7_sheet_68 ?_
                refine r_if_ne hR 76 dX7_sheet_69 (by decide) (fun c69 => ?_) (fun c69 => ?_)
                · try simp (disch := omega) only [nI_ltI, nI_leI, nI_eq, bI_0, Decidable.not_not, lc_lt, lc_gt, lc_ge, lc_le, lc_eq, i64_toInt] at c69
                  try simp (disch := omega) only [cv_lt, cv_le, cv_eq, nI_toInt, cv_0] at c69
                  first
                  | omega
                  | refine r_iload3 hR dX7_sheet_76 ?_
                    first
                    | (rw [if_neg c69] at J77; exact J77)
                    | (rw [if_pos c69] at J77; exact J77)
                · try simp (disch := omega) only [nI_ltI, nI_leI, nI_eq, bI_0, Decidable.not_not, lc_lt, lc_gt, lc_ge, lc_le, lc_eq, i64_toInt] at c69
                  try simp (disch := omega) only [cv_lt, cv_le, cv_eq, nI_toInt, cv_0] at c69
                  first
                  | omega
                  | refine r_iconst hR (nI 0) (by decide) dX7_sheet_72 ?_
                    refine r_goto hR 77 dX7_sheet_73 (by decide) ?_
                    first
                    | (rw [if_neg c69] at J77; exact J77)
                    | (rw [if_pos c69] at J77; exact J77)
            · try simp (disch := omega) only [nI_ltI, nI_leI, nI_eq, bI_0, Decidable.not_not, lc_lt, lc_gt, lc_ge, lc_le, lc_eq, i64_toInt] at c51
              try simp (disch := omega) only [cv_lt, cv_le, cv_eq, nI_toInt, cv_0] at c51
              first
              | omega
              | refine r_aload0 hR dX7_sheet_54 ?_
                refine r_ldc hR ct_X7_81 dX7_sheet_55 ?_
                refine r_cv1v hR kv_X7_82 (by decide) (t_X7_findingC (n := 0) (by decide) (by decide)) (by first | decide | assumption | (simp only [gcnt_4, gcnt_1, gcnt_2, gcnt_3, gcnt_12, gcnt_13, gcnt_16]; omega)) rfl rfl (Nat.le_of_ble_eq_true rfl) dX7_sheet_57 ?_
                refine r_iret hR dX7_sheet_60 ?_
                refine Qc_fnd hc (by decide) ?_
                unfold oSheet
                rw [if_pos (by simp (disch := omega) only [okI, cv_eq, nI_toInt]; omega), if_neg (by omega), if_pos (by omega)]
        · try simp (disch := omega) only [nI_ltI, nI_leI, nI_eq, bI_0, Decidable.not_not, lc_lt, lc_gt, lc_ge, lc_le, lc_eq, i64_toInt] at c38
          try simp (disch := omega) only [cv_lt, cv_le, cv_eq, nI_toInt, cv_0] at c38
          first
          | omega
          | refine r_aload0 hR dX7_sheet_41 ?_
            refine r_ldc hR ct_X7_230 dX7_sheet_42 ?_
            refine r_cv1v hR kv_X7_82 (by decide) (t_X7_findingC (n := 6) (by decide) (by decide)) (by first | decide | assumption | (simp only [gcnt_4, gcnt_1, gcnt_2, gcnt_3, gcnt_12, gcnt_13, gcnt_16]; omega)) rfl rfl (Nat.le_of_ble_eq_true rfl) dX7_sheet_44 ?_
            refine r_iret hR dX7_sheet_47 ?_
            refine Qc_fnd hc (by decide) ?_
            unfold oSheet
            rw [if_pos (by simp (disch := omega) only [okI, cv_eq, nI_toInt]; omega), if_pos (by omega)]
      refine r_iload2 hR dX7_sheet_8 ?_
      refine r_if_eq hR 37 dX7_sheet_9 (by decide) (fun c9 => ?_) (fun c9 => ?_)
      · try simp (disch := omega) only [nI_ltI, nI_leI, nI_eq, bI_0, Decidable.not_not, lc_lt, lc_gt, lc_ge, lc_le, lc_eq, i64_toInt] at c9
        try simp (disch := omega) only [cv_lt, cv_le, cv_eq, nI_toInt, cv_0] at c9
        first
        | omega
        | first | exact J37 0 (by omega) (by omega) | exact J37 8 (by omega) (by omega) | exact J37 16 (by omega) (by omega) | exact J37 64 (by omega) (by omega)
      · try simp (disch := omega) only [nI_ltI, nI_leI, nI_eq, bI_0, Decidable.not_not, lc_lt, lc_gt, lc_ge, lc_le, lc_eq, i64_toInt] at c9
        try simp (disch := omega) only [cv_lt, cv_le, cv_eq, nI_toInt, cv_0] at c9
        first
        | omega
        | refine r_iload2 hR dX7_sheet_12 ?_
          refine r_bipush hR (nI 8) (by decide) dX7_sheet_13 ?_
          refine r_icmp_eq hR 37 dX7_sheet_15 (by decide) (fun c15 => ?_) (fun c15 => ?_)
          · try simp (disch := omega) only [nI_ltI, nI_leI, nI_eq, bI_0, Decidable.not_not, lc_lt, lc_gt, lc_ge, lc_le, lc_eq, i64_toInt] at c15
            try simp (disch := omega) only [cv_lt, cv_le, cv_eq, nI_toInt, cv_0] at c15
            first
            | omega
            | first | exact J37 0 (by omega) (by omega) | exact J37 8 (by omega) (by omega) | exact J37 16 (by omega) (by omega) | exact J37 64 (by omega) (by omega)
          · try simp (disch := omega) only [nI_ltI, nI_leI, nI_eq, bI_0, Decidable.not_not, lc_lt, lc_gt, lc_ge, lc_le, lc_eq, i64_toInt] at c15
            try simp (disch := omega) only [cv_lt, cv_le, cv_eq, nI_toInt, cv_0] at c15
            first
            | omega
            | refine r_iload2 hR dX7_sheet_18 ?_
              refine r_bipush hR (nI 16) (by decide) dX7_sheet_19 ?_
              refine r_icmp_eq hR 37 dX7_sheet_21 (by decide) (fun c21 => ?_) (fun c21 => ?_)
              · try simp (disch := omega) only [nI_ltI, nI_leI, nI_eq, bI_0, Decidable.not_not, lc_lt, lc_gt, lc_ge, lc_le, lc_eq, i64_toInt] at c21
                try simp (disch := omega) only [cv_lt, cv_le, cv_eq, nI_toInt, cv_0] at c21
                first
                | omega
                | first | exact J37 0 (by omega) (by omega) | exact J37 8 (by omega) (by omega) | exact J37 16 (by omega) (by omega) | exact J37 64 (by omega) (by omega)
              · try simp (disch := omega) only [nI_ltI, nI_leI, nI_eq, bI_0, Decidable.not_not, lc_lt, lc_gt, lc_ge, lc_le, lc_eq, i64_toInt] at c21
                try simp (disch := omega) only [cv_lt, cv_le, cv_eq, nI_toInt, cv_0] at c21
                first
                | omega
                | refine r_iload2 hR dX7_sheet_24 ?_
                  refine r_bipush hR (nI 64) (by decide) dX7_sheet_25 ?_
                  refine r_icmp_eq hR 37 dX7_sheet_27 (by decide) (fun c27 => ?_) (fun c27 => ?_)
                  · try simp (disch := omega) only [nI_ltI, nI_leI, nI_eq, bI_0, Decidable.not_not, lc_lt, lc_gt, lc_ge, lc_le, lc_eq, i64_toInt] at c27
                    try simp (disch := omega) only [cv_lt, cv_le, cv_eq, nI_toInt, cv_0] at c27
                    first
                    | omega
                    | first | exact J37 0 (by omega) (by omega) | exact J37 8 (by omega) (by omega) | exact J37 16 (by omega) (by omega) | exact J37 64 (by omega) (by omega)
                  · try simp (disch := omega) only [nI_ltI, nI_leI, nI_eq, bI_0, Decidable.not_not, lc_lt, lc_gt, lc_ge, lc_le, lc_eq, i64_toInt] at c27
                    try simp (disch := omega) only [cv_lt, cv_le, cv_eq, nI_toInt, cv_0] at c27
                    first
                    | omega
                    | refine r_aload0 hR dX7_sheet_30 ?_
                      refine r_ldc hR ct_X7_81 dX7_sheet_31 ?_
                      refine r_cv1v hR kv_X7_82 (by decide) (t_X7_findingC (n := 0) (by decide) (by decide)) (by first | decide | assumption | (simp only [gcnt_4, gcnt_1, gcnt_2, gcnt_3, gcnt_12, gcnt_13, gcnt_16]; omega)) rfl rfl (Nat.le_of_ble_eq_true rfl) dX7_sheet_33 ?_
                      refine r_iret hR dX7_sheet_36 ?_
                      refine Qc_fnd hc (by decide) ?_
                      unfold oSheet
                      refine if_neg ?_
                      dsimp only [okI]
                      simp (disch := omega) only [cv_eq, nI_toInt, cv_0]
                      omega

set_option maxHeartbeats 4000000 in
set_option maxRecDepth 100000 in
theorem t_X7_write {G : gG} {M : gM} {A : gA} {x y : Int32} {v : Int64} (hc : clsP M A) (hw : wfA A) : Ct G mX7_write 2 [.ref (ad G 0 0), .int x, .int y, .long v] M (QcL M (oWrite A x y v)) := by
  obtain ⟨hwf, hday, hwk, hk2, hl, hT, hsh⟩ := id hw
  obtain ⟨w0, w1, w2, w3, wr, wt⟩ := id hwf
  obtain ⟨s0, s2, s3, s4, sr, sth⟩ := id hc.1
  have hK8 : ak A = 1 → aK A 3 ≤ 8 := fun z => (hwk z).1.2.2.2.1
  refine Ct.of (by decide +kernel) (k := 3) (ls0 := [some (.ref (ad G 0 0)), some (.int x), some (.int y), some (.long v), none, none, none, none]) rfl rfl (fun _ _ => trivial) ?_
  intro P hR
  have hc3 := hc.2.2.1
  have hc4 := hc.2.2.2.1
  have hc5 := hc.2.2.2.2.1
  have hc6 := hc.2.2.2.2.2.1
  have hc7 := hc.2.2.2.2.2.2
  refine r_iload1 hR dX7_write_0 ?_
  refine r_iconst hR (nI 3) (by decide) dX7_write_1 ?_
  refine r_cs2v hR ks_X7_77 (by decide) (t_X7_within) (Nat.le_of_ble_eq_true rfl) dX7_write_2 ?_
  refine r_if_ne hR 16 dX7_write_5 (by decide) (fun c5 => ?_) (fun c5 => ?_)
  · try simp (disch := omega) only [nI_ltI, nI_leI, nI_eq, bI_0, Decidable.not_not, lc_lt, lc_gt, lc_ge, lc_le, lc_eq, i64_toInt] at c5
    try simp (disch := omega) only [cv_lt, cv_le, cv_eq, nI_toInt, cv_0] at c5
    first
    | omega
    | obtain ⟨s, hs, rfl⟩ := of_in (x := x) (N := 3) (by omega)
      obtain ⟨g0, g1, g2⟩ := hc6 s (by omega)
      have hb9 : ab A s < 100 := by have := (hsh s (by omega)).1; omega
      have hz4 := (hsh s (by omega)).2
      have e : oWrite A (nI s) y v = (if ab A s = 0 then fndL A 5 else if 0 ≤ y.toInt ∧ y.toInt < az A s then (an A s (uN y), sB A (ab A) (az A) (va_up (an A) s (va_up (an A s) (uN y) (cutB (ab A s) v)))) else fndL A 0) := by
        unfold oWrite
        rw [if_pos (by simp (disch := omega) only [okI, nI_toInt]; omega)]
        simp (disch := omega) only [uN_nI]
      refine r_aload0 hR dX7_write_16 ?_
      refine r_get hR (by first | decide | assumption | (simp only [gcnt_4, gcnt_1, gcnt_2, gcnt_3, gcnt_12, gcnt_13, gcnt_16]; omega)) fl_X7_68 rfl rfl dX7_write_17 ?_
      refine r_iload1 hR dX7_write_20 ?_
      refine r_aald hR (t0 := 2) (by first | decide | assumption | (simp only [gcnt_4, gcnt_1, gcnt_2, gcnt_3, gcnt_12, gcnt_13, gcnt_16]; omega)) rfl rfl rfl (by omega) (by decide) rfl dX7_write_21 ?_
      refine r_astore5 hR (fun _ h => by first | (cases h; rfl) | exact absurd h (by simp)) dX7_write_22 ?_
      refine r_aload5 hR dX7_write_24 ?_
      refine r_cv0v hR kv_X7_236 (by decide) (t_X2_isMissing (by omega) g0 hb9) (by first | decide | assumption | (simp only [gcnt_4, gcnt_1, gcnt_2, gcnt_3, gcnt_12, gcnt_13, gcnt_16]; omega)) rfl rfl (Nat.le_of_ble_eq_true rfl) dX7_write_26 ?_
      refine r_if_eq hR 40 dX7_write_29 (by decide) (fun c29 => ?_) (fun c29 => ?_)
      · try simp (disch := omega) only [nI_ltI, nI_leI, nI_eq, bI_0, Decidable.not_not, lc_lt, lc_gt, lc_ge, lc_le, lc_eq, i64_toInt] at c29
        try simp (disch := omega) only [cv_lt, cv_le, cv_eq, nI_toInt, cv_0] at c29
        first
        | omega
        | refine r_iload2 hR dX7_write_40 ?_
          refine r_aload5 hR dX7_write_41 ?_
          refine r_get hR (by first | decide | assumption | (simp only [gcnt_4, gcnt_1, gcnt_2, gcnt_3, gcnt_12, gcnt_13, gcnt_16]; omega)) fl_X7_233 rfl rfl dX7_write_43 ?_
          rw [g1]
          refine r_iconst hR (nI 1) (by decide) dX7_write_46 ?_
          refine r_isub hR dX7_write_47 ?_
          have hz1 := pk_sub_toInt (a := az A s) (b := 1) (by omega) (by omega)
          refine r_cs2v hR ks_X7_77 (by decide) (t_X7_within) (Nat.le_of_ble_eq_true rfl) dX7_write_48 ?_
          refine r_if_ne hR 62 dX7_write_51 (by decide) (fun c51 => ?_) (fun c51 => ?_)
          · try simp (disch := omega) only [nI_ltI, nI_leI, nI_eq, bI_0, Decidable.not_not, lc_lt, lc_gt, lc_ge, lc_le, lc_eq, i64_toInt] at c51
            try simp (disch := omega) only [cv_lt, cv_le, cv_eq, nI_toInt, cv_0] at c51
            first
            | omega
            | rw [hz1] at c51
              obtain ⟨i, hi, rfl⟩ := of_in (x := y) (N := 40) (by omega)
              simp (disch := omega) only [nI_toInt] at c51
              refine r_aload5 hR dX7_write_62 ?_
              refine r_get hR (by first | decide | assumption | (simp only [gcnt_4, gcnt_1, gcnt_2, gcnt_3, gcnt_12, gcnt_13, gcnt_16]; omega)) fl_X7_240 rfl rfl dX7_write_64 ?_
              refine r_iload2 hR dX7_write_67 ?_
              refine r_lald hR (by first | decide | assumption | (simp only [gcnt_4, gcnt_1, gcnt_2, gcnt_3, gcnt_12, gcnt_13, gcnt_16]; omega)) rfl rfl (by omega) (by decide) dX7_write_68 ?_
              rw [g2 i (by omega)]
              refine r_lstore6 hR (fun _ h => by first | (cases h; rfl) | exact absurd h (by simp)) dX7_write_69 ?_
              refine r_aload5 hR dX7_write_71 ?_
              refine r_iload2 hR dX7_write_73 ?_
              refine r_lload3 hR dX7_write_74 ?_
              refine r_cv2u hR kv_X7_244 (by decide) (t_X2_put (by omega) g0 hb9 g1 hz4 (by omega)) (by first | decide | assumption | (simp only [gcnt_4, gcnt_1, gcnt_2, gcnt_3, gcnt_12, gcnt_13, gcnt_16]; omega)) rfl rfl (Nat.le_of_ble_eq_true rfl) dX7_write_75 ?_
              refine r_lload6 hR dX7_write_78 ?_
              refine r_lret hR dX7_write_80 ?_
              rw [if_neg (by omega), if_pos (by rw [nI_toInt (by omega)]; omega), uN_nI (by omega)] at e
              unfold QcL
              rw [e]
              refine ⟨rfl, clsP_sh hc (fun r a _ i _ => rfl) w3 hK8 (fun u hu => ?_), keepM_setl M _ _ _ (by decide)⟩
              refine ⟨(hc6 u hu).1, (hc6 u hu).2.1, fun j hj => ?_⟩
              rw [setl_r]
              by_cases q : u = s
              · subst q
                rw [vg_s]
                by_cases q2 : j = i
                · subst q2
                  rw [if_pos ⟨rfl, rfl, rfl⟩, vg_s]
                · rw [if_neg (fun h => q2 h.2.2), vg_o q2]
                  exact g2 j hj
              · rw [if_neg (fun h => q h.2.1), vg_o q]
                exact (hc6 u hu).2.2 j hj
          · try simp (disch := omega) only [nI_ltI, nI_leI, nI_eq, bI_0, Decidable.not_not, lc_lt, lc_gt, lc_ge, lc_le, lc_eq, i64_toInt] at c51
            try simp (disch := omega) only [cv_lt, cv_le, cv_eq, nI_toInt, cv_0] at c51
            first
            | omega
            | rw [hz1] at c51
              refine r_aload0 hR dX7_write_54 ?_
              refine r_ldc hR ct_X7_81 dX7_write_55 ?_
              refine r_cv1v hR kv_X7_82 (by decide) (t_X7_findingC (n := 0) (by decide) (by decide)) (by first | decide | assumption | (simp only [gcnt_4, gcnt_1, gcnt_2, gcnt_3, gcnt_12, gcnt_13, gcnt_16]; omega)) rfl rfl (Nat.le_of_ble_eq_true rfl) dX7_write_57 ?_
              refine r_i2l hR dX7_write_60 ?_
              refine r_lret hR dX7_write_61 ?_
              rw [if_neg (by omega), if_neg (by omega)] at e
              unfold QcL
              rw [e]
              exact ⟨rfl, clsP_fnd hc (by decide), keepM_seti M 0 0 _ (by decide)⟩
      · try simp (disch := omega) only [nI_ltI, nI_leI, nI_eq, bI_0, Decidable.not_not, lc_lt, lc_gt, lc_ge, lc_le, lc_eq, i64_toInt] at c29
        try simp (disch := omega) only [cv_lt, cv_le, cv_eq, nI_toInt, cv_0] at c29
        first
        | omega
        | refine r_aload0 hR dX7_write_32 ?_
          refine r_ldc hR ct_X7_239 dX7_write_33 ?_
          refine r_cv1v hR kv_X7_82 (by decide) (t_X7_findingC (n := 5) (by decide) (by decide)) (by first | decide | assumption | (simp only [gcnt_4, gcnt_1, gcnt_2, gcnt_3, gcnt_12, gcnt_13, gcnt_16]; omega)) rfl rfl (Nat.le_of_ble_eq_true rfl) dX7_write_35 ?_
          refine r_i2l hR dX7_write_38 ?_
          refine r_lret hR dX7_write_39 ?_
          rw [if_pos (by omega)] at e
          unfold QcL
          rw [e]
          exact ⟨rfl, clsP_fnd hc (by decide), keepM_seti M 0 5 _ (by decide)⟩
  · try simp (disch := omega) only [nI_ltI, nI_leI, nI_eq, bI_0, Decidable.not_not, lc_lt, lc_gt, lc_ge, lc_le, lc_eq, i64_toInt] at c5
    try simp (disch := omega) only [cv_lt, cv_le, cv_eq, nI_toInt, cv_0] at c5
    first
    | omega
    | refine r_aload0 hR dX7_write_8 ?_
      refine r_ldc hR ct_X7_81 dX7_write_9 ?_
      refine r_cv1v hR kv_X7_82 (by decide) (t_X7_findingC (n := 0) (by decide) (by decide)) (by first | decide | assumption | (simp only [gcnt_4, gcnt_1, gcnt_2, gcnt_3, gcnt_12, gcnt_13, gcnt_16]; omega)) rfl rfl (Nat.le_of_ble_eq_true rfl) dX7_write_11 ?_
      refine r_i2l hR dX7_write_14 ?_
      refine r_lret hR dX7_write_15 ?_
      have e : oWrite A x y v = fndL A 0 := by
        unfold oWrite
        rw [if_neg (by dsimp only [okI]; omega)]
      unfold QcL
      rw [e]
      exact ⟨rfl, clsP_fnd hc (by decide), keepM_seti M 0 0 _ (by decide)⟩

set_option maxHeartbeats 4000000 in
set_option maxRecDepth 100000 in
theorem t_X7_copy {G : gG} {M : gM} {A : gA} {xs f xt o n : Int32} (hc : clsP M A) (hw : wfA A) : Ct G mX7_copy 2 [.ref (ad G 0 0), .int xs, .int f, .int xt, .int o, .int n] M (Qc M (oCopy A xs f xt o n)) := by
  obtain ⟨hwf, hday, hwk, hk2, hl, hT, hsh⟩ := id hw
  obtain ⟨w0, w1, w2, w3, wr, wt⟩ := id hwf
  obtain ⟨s0, s2, s3, s4, sr, sth⟩ := id hc.1
  have hK8 : ak A = 1 → aK A 3 ≤ 8 := fun z => (hwk z).1.2.2.2.1
  refine Ct.of (by decide +kernel) (k := 2) (ls0 := [some (.ref (ad G 0 0)), some (.int xs), some (.int f), some (.int xt), some (.int o), some (.int n), none, none]) rfl rfl (fun _ _ => trivial) ?_
  intro P hR
  have hc3 := hc.2.2.1
  have hc4 := hc.2.2.2.1
  have hc5 := hc.2.2.2.2.1
  have hc6 := hc.2.2.2.2.2.1
  have hc7 := hc.2.2.2.2.2.2
  refine r_iload1 hR dX7_copy_0 ?_
  refine r_iconst hR (nI 3) (by decide) dX7_copy_1 ?_
  refine r_cs2v hR ks_X7_77 (by decide) (t_X7_within) (Nat.le_of_ble_eq_true rfl) dX7_copy_2 ?_
  refine r_if_eq hR 16 dX7_copy_5 (by decide) (fun c5 => ?_) (fun c5 => ?_)
  · try simp (disch := omega) only [nI_ltI, nI_leI, nI_eq, bI_0, Decidable.not_not, lc_lt, lc_gt, lc_ge, lc_le, lc_eq, i64_toInt] at c5
    try simp (disch := omega) only [cv_lt, cv_le, cv_eq, nI_toInt, cv_0] at c5
    first
    | omega
    | refine r_aload0 hR dX7_copy_16 ?_
      refine r_ldc hR ct_X7_81 dX7_copy_17 ?_
      refine r_cv1v hR kv_X7_82 (by decide) (t_X7_findingC (n := 0) (by decide) (by decide)) (by first | decide | assumption | (simp only [gcnt_4, gcnt_1, gcnt_2, gcnt_3, gcnt_12, gcnt_13, gcnt_16]; omega)) rfl rfl (Nat.le_of_ble_eq_true rfl) dX7_copy_19 ?_
      refine r_iret hR dX7_copy_22 ?_
      refine Qc_fnd hc (by decide) ?_
      unfold oCopy
      dsimp only [okI, okT]
      split <;> first | rfl | omega
  · try simp (disch := omega) only [nI_ltI, nI_leI, nI_eq, bI_0, Decidable.not_not, lc_lt, lc_gt, lc_ge, lc_le, lc_eq, i64_toInt] at c5
    try simp (disch := omega) only [cv_lt, cv_le, cv_eq, nI_toInt, cv_0] at c5
    first
    | omega
    | refine r_iload3 hR dX7_copy_8 ?_
      refine r_iconst hR (nI 3) (by decide) dX7_copy_9 ?_
      refine r_cs2v hR ks_X7_77 (by decide) (t_X7_within) (Nat.le_of_ble_eq_true rfl) dX7_copy_10 ?_
      refine r_if_ne hR 23 dX7_copy_13 (by decide) (fun c13 => ?_) (fun c13 => ?_)
      · try simp (disch := omega) only [nI_ltI, nI_leI, nI_eq, bI_0, Decidable.not_not, lc_lt, lc_gt, lc_ge, lc_le, lc_eq, i64_toInt] at c13
        try simp (disch := omega) only [cv_lt, cv_le, cv_eq, nI_toInt, cv_0] at c13
        first
        | omega
        | obtain ⟨s, hs, rfl⟩ := of_in (x := xs) (N := 3) (by omega)
          obtain ⟨t, ht, rfl⟩ := of_in (x := xt) (N := 3) (by omega)
          obtain ⟨g0, g1, g2⟩ := hc6 s (by omega)
          have hb9 : ab A s < 100 := by have := (hsh s (by omega)).1; omega
          have hz4 := (hsh s (by omega)).2
          obtain ⟨k0, k1, k2⟩ := hc6 t (by omega)
          have hb92 : ab A t < 100 := by have := (hsh t (by omega)).1; omega
          have hz42 := (hsh t (by omega)).2
          have e : oCopy A (nI s) f (nI t) o n = (if ab A s = 0 ∨ ab A t = 0 then fnd A 5 else if ¬ ab A s = ab A t then fnd A 2 else if (0 ≤ f.toInt ∧ 0 ≤ n.toInt ∧ f.toInt + n.toInt ≤ az A s) ∧ (0 ≤ o.toInt ∧ 0 ≤ n.toInt ∧ o.toInt + n.toInt ≤ az A t) then (n, sB A (ab A) (az A) (va_up (an A) t (va_cpy (an A s) (an A t) (uN f) (uN o) (uN n)))) else fnd A 0) := by
            unfold oCopy
            rw [if_pos (by simp (disch := omega) only [okI, nI_toInt]; omega)]
            simp (disch := omega) only [uN_nI]
          refine r_aload0 hR dX7_copy_23 ?_
          refine r_get hR (by first | decide | assumption | (simp only [gcnt_4, gcnt_1, gcnt_2, gcnt_3, gcnt_12, gcnt_13, gcnt_16]; omega)) fl_X7_68 rfl rfl dX7_copy_24 ?_
          refine r_iload1 hR dX7_copy_27 ?_
          refine r_aald hR (t0 := 2) (by first | decide | assumption | (simp only [gcnt_4, gcnt_1, gcnt_2, gcnt_3, gcnt_12, gcnt_13, gcnt_16]; omega)) rfl rfl rfl (by omega) (by decide) rfl dX7_copy_28 ?_
          refine r_astore6 hR (fun _ h => by first | (cases h; rfl) | exact absurd h (by simp)) dX7_copy_29 ?_
          refine r_aload0 hR dX7_copy_31 ?_
          refine r_get hR (by first | decide | assumption | (simp only [gcnt_4, gcnt_1, gcnt_2, gcnt_3, gcnt_12, gcnt_13, gcnt_16]; omega)) fl_X7_68 rfl rfl dX7_copy_32 ?_
          refine r_iload3 hR dX7_copy_35 ?_
          refine r_aald hR (t0 := 2) (by first | decide | assumption | (simp only [gcnt_4, gcnt_1, gcnt_2, gcnt_3, gcnt_12, gcnt_13, gcnt_16]; omega)) rfl rfl rfl (by omega) (by decide) rfl dX7_copy_36 ?_
          refine r_astore7 hR (fun _ h => by first | (cases h; rfl) | exact absurd h (by simp)) dX7_copy_37 ?_
          refine r_aload6 hR dX7_copy_39 ?_
          refine r_cv0v hR kv_X7_236 (by decide) (t_X2_isMissing (by omega) g0 hb9) (by first | decide | assumption | (simp only [gcnt_4, gcnt_1, gcnt_2, gcnt_3, gcnt_12, gcnt_13, gcnt_16]; omega)) rfl rfl (Nat.le_of_ble_eq_true rfl) dX7_copy_41 ?_
          refine r_if_ne hR 55 dX7_copy_44 (by decide) (fun c44 => ?_) (fun c44 => ?_)
          · try simp (disch := omega) only [nI_ltI, nI_leI, nI_eq, bI_0, Decidable.not_not, lc_lt, lc_gt, lc_ge, lc_le, lc_eq, i64_toInt] at c44
            try simp (disch := omega) only [cv_lt, cv_le, cv_eq, nI_toInt, cv_0] at c44
            first
            | omega
            | refine r_aload0 hR dX7_copy_55 ?_
              refine r_ldc hR ct_X7_239 dX7_copy_56 ?_
              refine r_cv1v hR kv_X7_82 (by decide) (t_X7_findingC (n := 5) (by decide) (by decide)) (by first | decide | assumption | (simp only [gcnt_4, gcnt_1, gcnt_2, gcnt_3, gcnt_12, gcnt_13, gcnt_16]; omega)) rfl rfl (Nat.le_of_ble_eq_true rfl) dX7_copy_58 ?_
              refine r_iret hR dX7_copy_61 ?_
              rw [e, if_pos (by omega)]
              exact Qc_fnd hc (by decide) rfl
          · try simp (disch := omega) only [nI_ltI, nI_leI, nI_eq, bI_0, Decidable.not_not, lc_lt, lc_gt, lc_ge, lc_le, lc_eq, i64_toInt] at c44
            try simp (disch := omega) only [cv_lt, cv_le, cv_eq, nI_toInt, cv_0] at c44
            first
            | omega
            | refine r_aload7 hR dX7_copy_47 ?_
              refine r_cv0v hR kv_X7_236 (by decide) (t_X2_isMissing (by omega) k0 hb92) (by first | decide | assumption | (simp only [gcnt_4, gcnt_1, gcnt_2, gcnt_3, gcnt_12, gcnt_13, gcnt_16]; omega)) rfl rfl (Nat.le_of_ble_eq_true rfl) dX7_copy_49 ?_
              refine r_if_eq hR 62 dX7_copy_52 (by decide) (fun c52 => ?_) (fun c52 => ?_)
              · try simp (disch := omega) only [nI_ltI, nI_leI, nI_eq, bI_0, Decidable.not_not, lc_lt, lc_gt, lc_ge, lc_le, lc_eq, i64_toInt] at c52
                try simp (disch := omega) only [cv_lt, cv_le, cv_eq, nI_toInt, cv_0] at c52
                first
                | omega
                | refine r_aload6 hR dX7_copy_62 ?_
                  refine r_get hR (by first | decide | assumption | (simp only [gcnt_4, gcnt_1, gcnt_2, gcnt_3, gcnt_12, gcnt_13, gcnt_16]; omega)) fl_X7_247 rfl rfl dX7_copy_64 ?_
                  rw [g0]
                  refine r_aload7 hR dX7_copy_67 ?_
                  refine r_get hR (by first | decide | assumption | (simp only [gcnt_4, gcnt_1, gcnt_2, gcnt_3, gcnt_12, gcnt_13, gcnt_16]; omega)) fl_X7_247 rfl rfl dX7_copy_69 ?_
                  rw [k0]
                  refine r_icmp_eq hR 82 dX7_copy_72 (by decide) (fun c72 => ?_) (fun c72 => ?_)
                  · try simp (disch := omega) only [nI_ltI, nI_leI, nI_eq, bI_0, Decidable.not_not, lc_lt, lc_gt, lc_ge, lc_le, lc_eq, i64_toInt] at c72
                    try simp (disch := omega) only [cv_lt, cv_le, cv_eq, nI_toInt, cv_0] at c72
                    first
                    | omega
                    | refine r_aload6 hR dX7_copy_82 ?_
                      refine r_iload2 hR dX7_copy_84 ?_
                      refine r_iload5 hR dX7_copy_85 ?_
                      refine r_cv2v hR kv_X7_250 (by decide) (t_X2_spans (by omega) g1 hz4) (by first | decide | assumption | (simp only [gcnt_4, gcnt_1, gcnt_2, gcnt_3, gcnt_12, gcnt_13, gcnt_16]; omega)) rfl rfl (Nat.le_of_ble_eq_true rfl) dX7_copy_87 ?_
                      refine r_if_eq hR 105 dX7_copy_90 (by decide) (fun c90 => ?_) (fun c90 => ?_)
                      · try simp (disch := omega) only [nI_ltI, nI_leI, nI_eq, bI_0, Decidable.not_not, lc_lt, lc_gt, lc_ge, lc_le, lc_eq, i64_toInt] at c90
                        try simp (disch := omega) only [cv_lt, cv_le, cv_eq, nI_toInt, cv_0] at c90
                        first
                        | omega
                        | refine r_aload0 hR dX7_copy_105 ?_
                          refine r_ldc hR ct_X7_81 dX7_copy_106 ?_
                          refine r_cv1v hR kv_X7_82 (by decide) (t_X7_findingC (n := 0) (by decide) (by decide)) (by first | decide | assumption | (simp only [gcnt_4, gcnt_1, gcnt_2, gcnt_3, gcnt_12, gcnt_13, gcnt_16]; omega)) rfl rfl (Nat.le_of_ble_eq_true rfl) dX7_copy_108 ?_
                          refine r_iret hR dX7_copy_111 ?_
                          rw [e, if_neg (by omega), if_neg (by omega), if_neg (by omega)]
                          exact Qc_fnd hc (by decide) rfl
                      · try simp (disch := omega) only [nI_ltI, nI_leI, nI_eq, bI_0, Decidable.not_not, lc_lt, lc_gt, lc_ge, lc_le, lc_eq, i64_toInt] at c90
                        try simp (disch := omega) only [cv_lt, cv_le, cv_eq, nI_toInt, cv_0] at c90
                        first
                        | omega
                        | refine r_aload7 hR dX7_copy_93 ?_
                          refine r_iload4 hR dX7_copy_95 ?_
                          refine r_iload5 hR dX7_copy_97 ?_
                          refine r_cv2v hR kv_X7_250 (by decide) (t_X2_spans (by omega) k1 hz42) (by first | decide | assumption | (simp only [gcnt_4, gcnt_1, gcnt_2, gcnt_3, gcnt_12, gcnt_13, gcnt_16]; omega)) rfl rfl (Nat.le_of_ble_eq_true rfl) dX7_copy_99 ?_
                          refine r_if_ne hR 112 dX7_copy_102 (by decide) (fun c102 => ?_) (fun c102 => ?_)
                          · try simp (disch := omega) only [nI_ltI, nI_leI, nI_eq, bI_0, Decidable.not_not, lc_lt, lc_gt, lc_ge, lc_le, lc_eq, i64_toInt] at c102
                            try simp (disch := omega) only [cv_lt, cv_le, cv_eq, nI_toInt, cv_0] at c102
                            first
                            | omega
                            | obtain ⟨f0, hf0, rfl⟩ := of_in (x := f) (N := 40) (by omega)
                              obtain ⟨o0, ho0, rfl⟩ := of_in (x := o) (N := 40) (by omega)
                              obtain ⟨n0, hn0, rfl⟩ := of_in (x := n) (N := 40) (by omega)
                              simp (disch := omega) only [nI_toInt] at c90 c102
                              refine r_aload6 hR dX7_copy_112 ?_
                              refine r_get hR (by first | decide | assumption | (simp only [gcnt_4, gcnt_1, gcnt_2, gcnt_3, gcnt_12, gcnt_13, gcnt_16]; omega)) fl_X7_240 rfl rfl dX7_copy_114 ?_
                              refine r_iload2 hR dX7_copy_117 ?_
                              refine r_aload7 hR dX7_copy_118 ?_
                              refine r_get hR (by first | decide | assumption | (simp only [gcnt_4, gcnt_1, gcnt_2, gcnt_3, gcnt_12, gcnt_13, gcnt_16]; omega)) fl_X7_240 rfl rfl dX7_copy_120 ?_
                              refine r_iload4 hR dX7_copy_123 ?_
                              refine r_iload5 hR dX7_copy_125 ?_
                              refine r_copyl hR ka_X7_253 (by decide) (by simp only [gcnt_13]; omega) (by simp only [gcnt_13]; omega) rfl (fun _ => rfl) rfl rfl rfl (show f0 + n0 ≤ 40 by omega) (show o0 + n0 ≤ 40 by omega) (by decide) (by decide) (Nat.le_of_ble_eq_true rfl) dX7_copy_127 ?_
                              refine r_iload5 hR dX7_copy_130 ?_
                              refine r_iret hR dX7_copy_132 ?_
                              rw [if_neg (by omega), if_neg (by omega), if_pos (by simp (disch := omega) only [nI_toInt]; omega)] at e
                              simp (disch := omega) only [uN_nI] at e
                              unfold Qc
                              rw [e]
                              refine ⟨rfl, clsP_sh hc (fun r a _ i _ => rfl) w3 hK8 (fun u hu => ?_), fun r hr => ⟨rfl, by funext i k; rw [setL_r, if_neg (by omega)]⟩⟩
                              refine ⟨(hc6 u hu).1, (hc6 u hu).2.1, fun j hj => ?_⟩
                              rw [setL_r]
                              by_cases q : u = t
                              · subst q
                                rw [if_pos ⟨rfl, rfl⟩, vg_s, va_cpy, va_cpy]
                                by_cases q2 : o0 ≤ j ∧ j < o0 + n0
                                · rw [if_pos q2, if_pos q2]
                                  exact g2 _ (by omega)
                                · rw [if_neg q2, if_neg q2]
                                  exact k2 j hj
                              · rw [if_neg (fun h => q h.2), vg_o q]
                                exact (hc6 u hu).2.2 j hj
                          · try simp (disch := omega) only [nI_ltI, nI_leI, nI_eq, bI_0, Decidable.not_not, lc_lt, lc_gt, lc_ge, lc_le, lc_eq, i64_toInt] at c102
                            try simp (disch := omega) only [cv_lt, cv_le, cv_eq, nI_toInt, cv_0] at c102
                            first
                            | omega
                            | refine r_aload0 hR dX7_copy_105 ?_
                              refine r_ldc hR ct_X7_81 dX7_copy_106 ?_
                              refine r_cv1v hR kv_X7_82 (by decide) (t_X7_findingC (n := 0) (by decide) (by decide)) (by first | decide | assumption | (simp only [gcnt_4, gcnt_1, gcnt_2, gcnt_3, gcnt_12, gcnt_13, gcnt_16]; omega)) rfl rfl (Nat.le_of_ble_eq_true rfl) dX7_copy_108 ?_
                              refine r_iret hR dX7_copy_111 ?_
                              rw [e, if_neg (by omega), if_neg (by omega), if_neg (by omega)]
                              exact Qc_fnd hc (by decide) rfl
                  · try simp (disch := omega) only [nI_ltI, nI_leI, nI_eq, bI_0, Decidable.not_not, lc_lt, lc_gt, lc_ge, lc_le, lc_eq, i64_toInt] at c72
                    try simp (disch := omega) only [cv_lt, cv_le, cv_eq, nI_toInt, cv_0] at c72
                    first
                    | omega
                    | refine r_aload0 hR dX7_copy_75 ?_
                      refine r_ldc hR ct_X7_156 dX7_copy_76 ?_
                      refine r_cv1v hR kv_X7_82 (by decide) (t_X7_findingC (n := 2) (by decide) (by decide)) (by first | decide | assumption | (simp only [gcnt_4, gcnt_1, gcnt_2, gcnt_3, gcnt_12, gcnt_13, gcnt_16]; omega)) rfl rfl (Nat.le_of_ble_eq_true rfl) dX7_copy_78 ?_
                      refine r_iret hR dX7_copy_81 ?_
                      rw [e, if_neg (by omega), if_pos (by omega)]
                      exact Qc_fnd hc (by decide) rfl
              · try simp (disch := omega) only [nI_ltI, nI_leI, nI_eq, bI_0, Decidable.not_not, lc_lt, lc_gt, lc_ge, lc_le, lc_eq, i64_toInt] at c52
                try simp (disch := omega) only [cv_lt, cv_le, cv_eq, nI_toInt, cv_0] at c52
                first
                | omega
                | refine r_aload0 hR dX7_copy_55 ?_
                  refine r_ldc hR ct_X7_239 dX7_copy_56 ?_
                  refine r_cv1v hR kv_X7_82 (by decide) (t_X7_findingC (n := 5) (by decide) (by decide)) (by first | decide | assumption | (simp only [gcnt_4, gcnt_1, gcnt_2, gcnt_3, gcnt_12, gcnt_13, gcnt_16]; omega)) rfl rfl (Nat.le_of_ble_eq_true rfl) dX7_copy_58 ?_
                  refine r_iret hR dX7_copy_61 ?_
                  rw [e, if_pos (by omega)]
                  exact Qc_fnd hc (by decide) rfl
      · try simp (disch := omega) only [nI_ltI, nI_leI, nI_eq, bI_0, Decidable.not_not, lc_lt, lc_gt, lc_ge, lc_le, lc_eq, i64_toInt] at c13
        try simp (disch := omega) only [cv_lt, cv_le, cv_eq, nI_toInt, cv_0] at c13
        first
        | omega
        | refine r_aload0 hR dX7_copy_16 ?_
          refine r_ldc hR ct_X7_81 dX7_copy_17 ?_
          refine r_cv1v hR kv_X7_82 (by decide) (t_X7_findingC (n := 0) (by decide) (by decide)) (by first | decide | assumption | (simp only [gcnt_4, gcnt_1, gcnt_2, gcnt_3, gcnt_12, gcnt_13, gcnt_16]; omega)) rfl rfl (Nat.le_of_ble_eq_true rfl) dX7_copy_19 ?_
          refine r_iret hR dX7_copy_22 ?_
          refine Qc_fnd hc (by decide) ?_
          unfold oCopy
          dsimp only [okI, okT]
          split <;> first | rfl | omega

set_option maxHeartbeats 4000000 in
set_option maxRecDepth 100000 in
theorem t_X7_lays {G : gG} {M : gM} {A : gA} {x : Int32} (hc : clsP M A) (hw : wfA A) : Ct G mX7_lays 2 [.ref (ad G 0 0), .int x] M (Qc M (oLays A x)) := by
  obtain ⟨hwf, hday, hwk, hk2, hl, hT, hsh⟩ := id hw
  obtain ⟨w0, w1, w2, w3, wr, wt⟩ := id hwf
  obtain ⟨s0, s2, s3, s4, sr, sth⟩ := id hc.1
  have hK8 : ak A = 1 → aK A 3 ≤ 8 := fun z => (hwk z).1.2.2.2.1
  refine Ct.of (by decide +kernel) (k := 5) (ls0 := [some (.ref (ad G 0 0)), some (.int x), none, none, none, none, none]) rfl rfl (fun _ _ => trivial) ?_
  intro P hR
  have hc3 := hc.2.2.1
  have hc4 := hc.2.2.2.1
  have hc5 := hc.2.2.2.2.1
  have hc6 := hc.2.2.2.2.2.1
  have hc7 := hc.2.2.2.2.2.2
  refine r_iload1 hR dX7_lays_0 ?_
  refine r_iconst hR (nI 3) (by decide) dX7_lays_1 ?_
  refine r_cs2v hR ks_X7_77 (by decide) (t_X7_within) (Nat.le_of_ble_eq_true rfl) dX7_lays_2 ?_
  refine r_if_ne hR 15 dX7_lays_5 (by decide) (fun c5 => ?_) (fun c5 => ?_)
  · try simp (disch := omega) only [nI_ltI, nI_leI, nI_eq, bI_0, Decidable.not_not, lc_lt, lc_gt, lc_ge, lc_le, lc_eq, i64_toInt] at c5
    try simp (disch := omega) only [cv_lt, cv_le, cv_eq, nI_toInt, cv_0] at c5
    first
    | omega
    | obtain ⟨s, hs, rfl⟩ := of_in (x := x) (N := 3) (by omega)
      obtain ⟨g0, g1, g2⟩ := hc6 s (by omega)
      have hb9 : ab A s < 100 := by have := (hsh s (by omega)).1; omega
      have hz4 := (hsh s (by omega)).2
      have e : oLays A (nI s) = (if ab A s = 0 then fnd A 5 else (nI (layS (aS A) (an A s) (if az A s < 7 then az A s else 7)).1, sS A (layS (aS A) (an A s) (if az A s < 7 then az A s else 7)).2)) := by
        unfold oLays
        rw [if_pos (by simp (disch := omega) only [okI, nI_toInt]; omega)]
        simp (disch := omega) only [uN_nI]
      have hzn : (if az A s < 7 then az A s else 7) ≤ 7 ∧ (if az A s < 7 then az A s else 7) ≤ az A s ∧ (az A s ≤ (if az A s < 7 then az A s else 7) ∨ 7 ≤ (if az A s < 7 then az A s else 7)) := by split <;> omega
      refine r_aload0 hR dX7_lays_15 ?_
      refine r_get hR (by first | decide | assumption | (simp only [gcnt_4, gcnt_1, gcnt_2, gcnt_3, gcnt_12, gcnt_13, gcnt_16]; omega)) fl_X7_68 rfl rfl dX7_lays_16 ?_
      refine r_iload1 hR dX7_lays_19 ?_
      refine r_aald hR (t0 := 2) (by first | decide | assumption | (simp only [gcnt_4, gcnt_1, gcnt_2, gcnt_3, gcnt_12, gcnt_13, gcnt_16]; omega)) rfl rfl rfl (by omega) (by decide) rfl dX7_lays_20 ?_
      refine r_astore2 hR (fun _ h => by first | (cases h; rfl) | exact absurd h (by simp)) dX7_lays_21 ?_
      refine r_aload2 hR dX7_lays_22 ?_
      refine r_cv0v hR kv_X7_236 (by decide) (t_X2_isMissing (by omega) g0 hb9) (by first | decide | assumption | (simp only [gcnt_4, gcnt_1, gcnt_2, gcnt_3, gcnt_12, gcnt_13, gcnt_16]; omega)) rfl rfl (Nat.le_of_ble_eq_true rfl) dX7_lays_23 ?_
      refine r_if_eq hR 36 dX7_lays_26 (by decide) (fun c26 => ?_) (fun c26 => ?_)
      · try simp (disch := omega) only [nI_ltI, nI_leI, nI_eq, bI_0, Decidable.not_not, lc_lt, lc_gt, lc_ge, lc_le, lc_eq, i64_toInt] at c26
        try simp (disch := omega) only [cv_lt, cv_le, cv_eq, nI_toInt, cv_0] at c26
        first
        | omega
        | have L : ∀ (j i : Nat) (x5 x6 : Option Value), i + j = (if az A s < 7 then az A s else 7) → P 41 [some (.ref (ad G 0 0)), some (.int (nI s)), some (.ref (ad G 12 s)), some (.int (nI (layS (aS A) (an A s) i).1)), some (.int (nI i)), x5, x6] [] (putSea M 0 (layS (aS A) (an A s) i).2) := by
            intro j
            induction j with
            | zero =>
              intro i x5 x6 hij 
              have p3 : (layS (aS A) (an A s) i).2 3 = aS A 3 := layS_3 _ _ i
              have pl : (layS (aS A) (an A s) i).1 ≤ i := layS_le _ _ i
              have pg1 : (putSea M 0 (layS (aS A) (an A s) i).2).1 12 s 1 = nI (az A s) := by rw [putSn_far M 0 _ (by omega) (by omega) (by omega)]; exact g1
              refine r_iload4 hR dX7_lays_41 ?_
              refine r_bipush hR (nI 7) (by decide) dX7_lays_43 ?_
              refine r_icmp_ge hR 104 dX7_lays_45 (by decide) (fun c45 => ?_) (fun c45 => ?_)
              · try simp (disch := omega) only [nI_ltI, nI_leI, nI_eq, bI_0, Decidable.not_not, lc_lt, lc_gt, lc_ge, lc_le, lc_eq, i64_toInt] at c45
                try simp (disch := omega) only [cv_lt, cv_le, cv_eq, nI_toInt, cv_0] at c45
                first
                | omega
                | refine r_iload3 hR dX7_lays_104 ?_
                  refine r_iret hR dX7_lays_105 ?_
                  have hi7 : (if az A s < 7 then az A s else 7) = i := by split <;> omega
                  rw [e, if_neg (by omega), hi7]
                  exact ⟨rfl, clsP_sea hc (by omega) hK8, keepM_put M _ _ _⟩
              · try simp (disch := omega) only [nI_ltI, nI_leI, nI_eq, bI_0, Decidable.not_not, lc_lt, lc_gt, lc_ge, lc_le, lc_eq, i64_toInt] at c45
                try simp (disch := omega) only [cv_lt, cv_le, cv_eq, nI_toInt, cv_0] at c45
                first
                | omega
                | refine r_iload4 hR dX7_lays_48 ?_
                  refine r_aload2 hR dX7_lays_50 ?_
                  refine r_get hR (by first | decide | assumption | (simp only [gcnt_4, gcnt_1, gcnt_2, gcnt_3, gcnt_12, gcnt_13, gcnt_16]; omega)) fl_X7_233 rfl rfl dX7_lays_51 ?_
                  try simp only [pg1]
                  refine r_icmp_ge hR 104 dX7_lays_54 (by decide) (fun c54 => ?_) (fun c54 => ?_)
                  · try simp (disch := omega) only [nI_ltI, nI_leI, nI_eq, bI_0, Decidable.not_not, lc_lt, lc_gt, lc_ge, lc_le, lc_eq, i64_toInt] at c54
                    try simp (disch := omega) only [cv_lt, cv_le, cv_eq, nI_toInt, cv_0] at c54
                    first
                    | omega
                    | refine r_iload3 hR dX7_lays_104 ?_
                      refine r_iret hR dX7_lays_105 ?_
                      have hi7 : (if az A s < 7 then az A s else 7) = i := by split <;> omega
                      rw [e, if_neg (by omega), hi7]
                      exact ⟨rfl, clsP_sea hc (by omega) hK8, keepM_put M _ _ _⟩
                  · try simp (disch := omega) only [nI_ltI, nI_leI, nI_eq, bI_0, Decidable.not_not, lc_lt, lc_gt, lc_ge, lc_le, lc_eq, i64_toInt] at c54
                    try simp (disch := omega) only [cv_lt, cv_le, cv_eq, nI_toInt, cv_0] at c54
                    first
                    | omega
                    | refine r_aload2 hR dX7_lays_57 ?_
                      refine r_get hR (by first | decide | assumption | (simp only [gcnt_4, gcnt_1, gcnt_2, gcnt_3, gcnt_12, gcnt_13, gcnt_16]; omega)) fl_X7_240 rfl rfl dX7_lays_58 ?_
                      try simp only [pg1]
                      refine r_iload4 hR dX7_lays_61 ?_
                      refine r_lald hR (by first | decide | assumption | (simp only [gcnt_4, gcnt_1, gcnt_2, gcnt_3, gcnt_12, gcnt_13, gcnt_16]; omega)) rfl rfl (by omega) (by decide) dX7_lays_63 ?_
                      rw [putSn_2, g2 i (by omega)]
                      refine r_lstore5 hR (fun _ h => by first | (cases h; rfl) | exact absurd h (by simp)) dX7_lays_64 ?_
                      refine r_lload5 hR dX7_lays_66 ?_
                      refine r_lconst hR 0 (by decide) dX7_lays_68 ?_
                      refine r_lcmp hR dX7_lays_69 ?_
                      refine r_if_lt hR 98 dX7_lays_70 (by decide) (fun c70 => ?_) (fun c70 => ?_)
                      · try simp (disch := omega) only [nI_ltI, nI_leI, nI_eq, bI_0, Decidable.not_not, lc_lt, lc_gt, lc_ge, lc_le, lc_eq, i64_toInt] at c70
                        try simp (disch := omega) only [cv_lt, cv_le, cv_eq, nI_toInt, cv_0] at c70
                        first
                        | omega
                        | simp only [i64_0, i64_8] at c70
                          refine r_iinc4 hR (nI 1) (by decide) (fun _ h => by first | (cases h; rfl) | exact absurd h (by simp)) dX7_lays_98 ?_
                          try rw [nI_add]
                          refine r_goto hR 41 dX7_lays_101 (by decide) ?_
                          omega
                      · try simp (disch := omega) only [nI_ltI, nI_leI, nI_eq, bI_0, Decidable.not_not, lc_lt, lc_gt, lc_ge, lc_le, lc_eq, i64_toInt] at c70
                        try simp (disch := omega) only [cv_lt, cv_le, cv_eq, nI_toInt, cv_0] at c70
                        first
                        | omega
                        | simp only [i64_0, i64_8] at c70
                          refine r_lload5 hR dX7_lays_73 ?_
                          refine r_ldc2 hR ct_X7_259 dX7_lays_75 ?_
                          refine r_lcmp hR dX7_lays_78 ?_
                          refine r_if_gt hR 98 dX7_lays_79 (by decide) (fun c79 => ?_) (fun c79 => ?_)
                          · try simp (disch := omega) only [nI_ltI, nI_leI, nI_eq, bI_0, Decidable.not_not, lc_lt, lc_gt, lc_ge, lc_le, lc_eq, i64_toInt] at c79
                            try simp (disch := omega) only [cv_lt, cv_le, cv_eq, nI_toInt, cv_0] at c79
                            first
                            | omega
                            | simp only [i64_0, i64_8] at c79
                              refine r_iinc4 hR (nI 1) (by decide) (fun _ h => by first | (cases h; rfl) | exact absurd h (by simp)) dX7_lays_98 ?_
                              try rw [nI_add]
                              refine r_goto hR 41 dX7_lays_101 (by decide) ?_
                              omega
                          · try simp (disch := omega) only [nI_ltI, nI_leI, nI_eq, bI_0, Decidable.not_not, lc_lt, lc_gt, lc_ge, lc_le, lc_eq, i64_toInt] at c79
                            try simp (disch := omega) only [cv_lt, cv_le, cv_eq, nI_toInt, cv_0] at c79
                            first
                            | omega
                            | simp only [i64_0, i64_8] at c79
                              refine r_aload0 hR dX7_lays_82 ?_
                              refine r_get hR (by first | decide | assumption | (simp only [gcnt_4, gcnt_1, gcnt_2, gcnt_3, gcnt_12, gcnt_13, gcnt_16]; omega)) fl_X7_10 rfl rfl dX7_lays_83 ?_
                              try simp only [pg1]
                              refine r_get hR (by first | decide | assumption | (simp only [gcnt_4, gcnt_1, gcnt_2, gcnt_3, gcnt_12, gcnt_13, gcnt_16]; omega)) fl_X7_86 rfl rfl dX7_lays_86 ?_
                              try simp only [pg1]
                              refine r_iload4 hR dX7_lays_89 ?_
                              refine r_lload5 hR dX7_lays_91 ?_
                              refine r_l2i hR dX7_lays_93 ?_
                              rw [l2i_t (by omega) (by omega)]
                              refine r_iast hR (by first | decide | assumption | (simp only [gcnt_4, gcnt_1, gcnt_2, gcnt_3, gcnt_12, gcnt_13, gcnt_16]; omega)) (fun _ => rfl) rfl (by omega) (by decide) dX7_lays_94 ?_
                              
                              refine r_iinc3 hR (nI 1) (by decide) (fun _ h => by first | (cases h; rfl) | exact absurd h (by simp)) dX7_lays_95 ?_
                              try rw [nI_add]
                              refine r_iinc4 hR (nI 1) (by decide) (fun _ h => by first | (cases h; rfl) | exact absurd h (by simp)) dX7_lays_98 ?_
                              try rw [nI_add]
                              refine r_goto hR 41 dX7_lays_101 (by decide) ?_
                              omega
            | succ j ih =>
              intro i x5 x6 hij 
              have p3 : (layS (aS A) (an A s) i).2 3 = aS A 3 := layS_3 _ _ i
              have pl : (layS (aS A) (an A s) i).1 ≤ i := layS_le _ _ i
              have pg1 : (putSea M 0 (layS (aS A) (an A s) i).2).1 12 s 1 = nI (az A s) := by rw [putSn_far M 0 _ (by omega) (by omega) (by omega)]; exact g1
              refine r_iload4 hR dX7_lays_41 ?_
              refine r_bipush hR (nI 7) (by decide) dX7_lays_43 ?_
              refine r_icmp_ge hR 104 dX7_lays_45 (by decide) (fun c45 => ?_) (fun c45 => ?_)
              · try simp (disch := omega) only [nI_ltI, nI_leI, nI_eq, bI_0, Decidable.not_not, lc_lt, lc_gt, lc_ge, lc_le, lc_eq, i64_toInt] at c45
                try simp (disch := omega) only [cv_lt, cv_le, cv_eq, nI_toInt, cv_0] at c45
                first
                | omega
                | refine r_iload3 hR dX7_lays_104 ?_
                  refine r_iret hR dX7_lays_105 ?_
                  have hi7 : (if az A s < 7 then az A s else 7) = i := by split <;> omega
                  rw [e, if_neg (by omega), hi7]
                  exact ⟨rfl, clsP_sea hc (by omega) hK8, keepM_put M _ _ _⟩
              · try simp (disch := omega) only [nI_ltI, nI_leI, nI_eq, bI_0, Decidable.not_not, lc_lt, lc_gt, lc_ge, lc_le, lc_eq, i64_toInt] at c45
                try simp (disch := omega) only [cv_lt, cv_le, cv_eq, nI_toInt, cv_0] at c45
                first
                | omega
                | refine r_iload4 hR dX7_lays_48 ?_
                  refine r_aload2 hR dX7_lays_50 ?_
                  refine r_get hR (by first | decide | assumption | (simp only [gcnt_4, gcnt_1, gcnt_2, gcnt_3, gcnt_12, gcnt_13, gcnt_16]; omega)) fl_X7_233 rfl rfl dX7_lays_51 ?_
                  try simp only [pg1]
                  refine r_icmp_ge hR 104 dX7_lays_54 (by decide) (fun c54 => ?_) (fun c54 => ?_)
                  · try simp (disch := omega) only [nI_ltI, nI_leI, nI_eq, bI_0, Decidable.not_not, lc_lt, lc_gt, lc_ge, lc_le, lc_eq, i64_toInt] at c54
                    try simp (disch := omega) only [cv_lt, cv_le, cv_eq, nI_toInt, cv_0] at c54
                    first
                    | omega
                    | refine r_iload3 hR dX7_lays_104 ?_
                      refine r_iret hR dX7_lays_105 ?_
                      have hi7 : (if az A s < 7 then az A s else 7) = i := by split <;> omega
                      rw [e, if_neg (by omega), hi7]
                      exact ⟨rfl, clsP_sea hc (by omega) hK8, keepM_put M _ _ _⟩
                  · try simp (disch := omega) only [nI_ltI, nI_leI, nI_eq, bI_0, Decidable.not_not, lc_lt, lc_gt, lc_ge, lc_le, lc_eq, i64_toInt] at c54
                    try simp (disch := omega) only [cv_lt, cv_le, cv_eq, nI_toInt, cv_0] at c54
                    first
                    | omega
                    | refine r_aload2 hR dX7_lays_57 ?_
                      refine r_get hR (by first | decide | assumption | (simp only [gcnt_4, gcnt_1, gcnt_2, gcnt_3, gcnt_12, gcnt_13, gcnt_16]; omega)) fl_X7_240 rfl rfl dX7_lays_58 ?_
                      try simp only [pg1]
                      refine r_iload4 hR dX7_lays_61 ?_
                      refine r_lald hR (by first | decide | assumption | (simp only [gcnt_4, gcnt_1, gcnt_2, gcnt_3, gcnt_12, gcnt_13, gcnt_16]; omega)) rfl rfl (by omega) (by decide) dX7_lays_63 ?_
                      rw [putSn_2, g2 i (by omega)]
                      refine r_lstore5 hR (fun _ h => by first | (cases h; rfl) | exact absurd h (by simp)) dX7_lays_64 ?_
                      refine r_lload5 hR dX7_lays_66 ?_
                      refine r_lconst hR 0 (by decide) dX7_lays_68 ?_
                      refine r_lcmp hR dX7_lays_69 ?_
                      refine r_if_lt hR 98 dX7_lays_70 (by decide) (fun c70 => ?_) (fun c70 => ?_)
                      · try simp (disch := omega) only [nI_ltI, nI_leI, nI_eq, bI_0, Decidable.not_not, lc_lt, lc_gt, lc_ge, lc_le, lc_eq, i64_toInt] at c70
                        try simp (disch := omega) only [cv_lt, cv_le, cv_eq, nI_toInt, cv_0] at c70
                        first
                        | omega
                        | simp only [i64_0, i64_8] at c70
                          refine r_iinc4 hR (nI 1) (by decide) (fun _ h => by first | (cases h; rfl) | exact absurd h (by simp)) dX7_lays_98 ?_
                          try rw [nI_add]
                          refine r_goto hR 41 dX7_lays_101 (by decide) ?_
                          first
                          | (have el : layS (aS A) (an A s) (i + 1) = ((layS (aS A) (an A s) i).1 + 1, va_up (layS (aS A) (an A s) i).2 (4 + i) (an A s i).toInt.toNat) := by show (if _ then _ else _) = _; rw [if_pos (by omega)]
                             refine r_mem (M2 := putSea M 0 (layS (aS A) (an A s) (i + 1)).2) ?_ ?_
                             · rw [el, putSn_seti_o _ _ _ _ (by omega)]
                               show putSn M 0 _ _ = putSn M 0 _ (va_up (layS (aS A) (an A s) i).2 (4 + i) _ 3)
                               rw [vu_o (by omega)]
                             · have := ih (i + 1) (some (.long (an A s i))) none (by omega)
                               rw [el] at this ⊢
                               exact this)
                          | (have el : layS (aS A) (an A s) (i + 1) = layS (aS A) (an A s) i := by show (if _ then _ else _) = _; rw [if_neg (by omega)]
                             have := ih (i + 1) (some (.long (an A s i))) none (by omega)
                             rw [el] at this
                             exact this)
                      · try simp (disch := omega) only [nI_ltI, nI_leI, nI_eq, bI_0, Decidable.not_not, lc_lt, lc_gt, lc_ge, lc_le, lc_eq, i64_toInt] at c70
                        try simp (disch := omega) only [cv_lt, cv_le, cv_eq, nI_toInt, cv_0] at c70
                        first
                        | omega
                        | simp only [i64_0, i64_8] at c70
                          refine r_lload5 hR dX7_lays_73 ?_
                          refine r_ldc2 hR ct_X7_259 dX7_lays_75 ?_
                          refine r_lcmp hR dX7_lays_78 ?_
                          refine r_if_gt hR 98 dX7_lays_79 (by decide) (fun c79 => ?_) (fun c79 => ?_)
                          · try simp (disch := omega) only [nI_ltI, nI_leI, nI_eq, bI_0, Decidable.not_not, lc_lt, lc_gt, lc_ge, lc_le, lc_eq, i64_toInt] at c79
                            try simp (disch := omega) only [cv_lt, cv_le, cv_eq, nI_toInt, cv_0] at c79
                            first
                            | omega
                            | simp only [i64_0, i64_8] at c79
                              refine r_iinc4 hR (nI 1) (by decide) (fun _ h => by first | (cases h; rfl) | exact absurd h (by simp)) dX7_lays_98 ?_
                              try rw [nI_add]
                              refine r_goto hR 41 dX7_lays_101 (by decide) ?_
                              first
                              | (have el : layS (aS A) (an A s) (i + 1) = ((layS (aS A) (an A s) i).1 + 1, va_up (layS (aS A) (an A s) i).2 (4 + i) (an A s i).toInt.toNat) := by show (if _ then _ else _) = _; rw [if_pos (by omega)]
                                 refine r_mem (M2 := putSea M 0 (layS (aS A) (an A s) (i + 1)).2) ?_ ?_
                                 · rw [el, putSn_seti_o _ _ _ _ (by omega)]
                                   show putSn M 0 _ _ = putSn M 0 _ (va_up (layS (aS A) (an A s) i).2 (4 + i) _ 3)
                                   rw [vu_o (by omega)]
                                 · have := ih (i + 1) (some (.long (an A s i))) none (by omega)
                                   rw [el] at this ⊢
                                   exact this)
                              | (have el : layS (aS A) (an A s) (i + 1) = layS (aS A) (an A s) i := by show (if _ then _ else _) = _; rw [if_neg (by omega)]
                                 have := ih (i + 1) (some (.long (an A s i))) none (by omega)
                                 rw [el] at this
                                 exact this)
                          · try simp (disch := omega) only [nI_ltI, nI_leI, nI_eq, bI_0, Decidable.not_not, lc_lt, lc_gt, lc_ge, lc_le, lc_eq, i64_toInt] at c79
                            try simp (disch := omega) only [cv_lt, cv_le, cv_eq, nI_toInt, cv_0] at c79
                            first
                            | omega
                            | simp only [i64_0, i64_8] at c79
                              refine r_aload0 hR dX7_lays_82 ?_
                              refine r_get hR (by first | decide | assumption | (simp only [gcnt_4, gcnt_1, gcnt_2, gcnt_3, gcnt_12, gcnt_13, gcnt_16]; omega)) fl_X7_10 rfl rfl dX7_lays_83 ?_
                              try simp only [pg1]
                              refine r_get hR (by first | decide | assumption | (simp only [gcnt_4, gcnt_1, gcnt_2, gcnt_3, gcnt_12, gcnt_13, gcnt_16]; omega)) fl_X7_86 rfl rfl dX7_lays_86 ?_
                              try simp only [pg1]
                              refine r_iload4 hR dX7_lays_89 ?_
                              refine r_lload5 hR dX7_lays_91 ?_
                              refine r_l2i hR dX7_lays_93 ?_
                              rw [l2i_t (by omega) (by omega)]
                              refine r_iast hR (by first | decide | assumption | (simp only [gcnt_4, gcnt_1, gcnt_2, gcnt_3, gcnt_12, gcnt_13, gcnt_16]; omega)) (fun _ => rfl) rfl (by omega) (by decide) dX7_lays_94 ?_
                              
                              refine r_iinc3 hR (nI 1) (by decide) (fun _ h => by first | (cases h; rfl) | exact absurd h (by simp)) dX7_lays_95 ?_
                              try rw [nI_add]
                              refine r_iinc4 hR (nI 1) (by decide) (fun _ h => by first | (cases h; rfl) | exact absurd h (by simp)) dX7_lays_98 ?_
                              try rw [nI_add]
                              refine r_goto hR 41 dX7_lays_101 (by decide) ?_
                              first
                              | (have el : layS (aS A) (an A s) (i + 1) = ((layS (aS A) (an A s) i).1 + 1, va_up (layS (aS A) (an A s) i).2 (4 + i) (an A s i).toInt.toNat) := by show (if _ then _ else _) = _; rw [if_pos (by omega)]
                                 refine r_mem (M2 := putSea M 0 (layS (aS A) (an A s) (i + 1)).2) ?_ ?_
                                 · rw [el, putSn_seti_o _ _ _ _ (by omega)]
                                   show putSn M 0 _ _ = putSn M 0 _ (va_up (layS (aS A) (an A s) i).2 (4 + i) _ 3)
                                   rw [vu_o (by omega)]
                                 · have := ih (i + 1) (some (.long (an A s i))) none (by omega)
                                   rw [el] at this ⊢
                                   exact this)
                              | (have el : layS (aS A) (an A s) (i + 1) = layS (aS A) (an A s) i := by show (if _ then _ else _) = _; rw [if_neg (by omega)]
                                 have := ih (i + 1) (some (.long (an A s i))) none (by omega)
                                 rw [el] at this
                                 exact this)
          refine r_iconst hR (nI 0) (by decide) dX7_lays_36 ?_
          refine r_istore3 hR (fun _ h => by first | (cases h; rfl) | exact absurd h (by simp)) dX7_lays_37 ?_
          refine r_iconst hR (nI 0) (by decide) dX7_lays_38 ?_
          refine r_istore4 hR (fun _ h => by first | (cases h; rfl) | exact absurd h (by simp)) dX7_lays_39 ?_
          refine r_mem (putSn_id hc.1).symm ?_
          exact L (if az A s < 7 then az A s else 7) 0 _ _ (by omega)
      · try simp (disch := omega) only [nI_ltI, nI_leI, nI_eq, bI_0, Decidable.not_not, lc_lt, lc_gt, lc_ge, lc_le, lc_eq, i64_toInt] at c26
        try simp (disch := omega) only [cv_lt, cv_le, cv_eq, nI_toInt, cv_0] at c26
        first
        | omega
        | refine r_aload0 hR dX7_lays_29 ?_
          refine r_ldc hR ct_X7_239 dX7_lays_30 ?_
          refine r_cv1v hR kv_X7_82 (by decide) (t_X7_findingC (n := 5) (by decide) (by decide)) (by first | decide | assumption | (simp only [gcnt_4, gcnt_1, gcnt_2, gcnt_3, gcnt_12, gcnt_13, gcnt_16]; omega)) rfl rfl (Nat.le_of_ble_eq_true rfl) dX7_lays_32 ?_
          refine r_iret hR dX7_lays_35 ?_
          rw [e, if_pos (by omega)]
          exact Qc_fnd hc (by decide) rfl
  · try simp (disch := omega) only [nI_ltI, nI_leI, nI_eq, bI_0, Decidable.not_not, lc_lt, lc_gt, lc_ge, lc_le, lc_eq, i64_toInt] at c5
    try simp (disch := omega) only [cv_lt, cv_le, cv_eq, nI_toInt, cv_0] at c5
    first
    | omega
    | refine r_aload0 hR dX7_lays_8 ?_
      refine r_ldc hR ct_X7_81 dX7_lays_9 ?_
      refine r_cv1v hR kv_X7_82 (by decide) (t_X7_findingC (n := 0) (by decide) (by decide)) (by first | decide | assumption | (simp only [gcnt_4, gcnt_1, gcnt_2, gcnt_3, gcnt_12, gcnt_13, gcnt_16]; omega)) rfl rfl (Nat.le_of_ble_eq_true rfl) dX7_lays_11 ?_
      refine r_iret hR dX7_lays_14 ?_
      refine Qc_fnd hc (by decide) ?_
      unfold oLays
      dsimp only [okI, okT]
      split <;> first | rfl | omega

