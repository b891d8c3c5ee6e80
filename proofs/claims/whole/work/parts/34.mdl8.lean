def ncF (A : gA) (s f t o n : Int32) : Int32 := if okI s 0 3 ∧ okI t 0 3 then (if ab A (uN s) = 0 ∨ ab A (uN t) = 0 then -1000000006 else if ¬ ab A (uN s) = ab A (uN t) then -1000000003 else if (0 ≤ f.toInt ∧ 0 ≤ n.toInt ∧ f.toInt + n.toInt ≤ az A (uN s)) ∧ (0 ≤ o.toInt ∧ 0 ≤ n.toInt ∧ o.toInt + n.toInt ≤ az A (uN t)) then nI 0 else -1000000001) else -1000000001
theorem sub_i {z : Nat} {f : Int32} (hz : z ≤ 40) (hf : 0 ≤ f.toInt) : (nI z - f).toInt = z - f.toInt := by
  have h := Int32.toInt_lt f
  rw [Int32.toInt_sub, nI_toInt (by omega), Int.bmod_def]
  split <;> omega
def cpU (M : gM) (a b k : Nat) : gM := setL M 21 0 (fun j => if b ≤ j ∧ j < b + k then M.2 21 0 (a + (j - b)) else M.2 21 0 j)
def cpD (M : gM) (a b n k : Nat) : gM := setL M 21 0 (fun j => if b + (n - k) ≤ j ∧ j < b + n then M.2 21 0 (a + (j - b)) else M.2 21 0 j)
theorem cpU_r (M : gM) (a b k j : Nat) : (cpU M a b k).2 21 0 j = if b ≤ j ∧ j < b + k then M.2 21 0 (a + (j - b)) else M.2 21 0 j := by
  unfold cpU; rw [setL_r, if_pos ⟨rfl, rfl⟩]
theorem cpD_r (M : gM) (a b n k j : Nat) : (cpD M a b n k).2 21 0 j = if b + (n - k) ≤ j ∧ j < b + n then M.2 21 0 (a + (j - b)) else M.2 21 0 j := by
  unfold cpD; rw [setL_r, if_pos ⟨rfl, rfl⟩]
theorem L_ext {M M' : gM} (h1 : M.1 = M'.1) (h2 : ∀ j, M.2 21 0 j = M'.2 21 0 j) (h3 : ∀ r i k, ¬ (r = 21 ∧ i = 0) → M.2 r i k = M'.2 r i k) : M = M' := by
  refine gM_extL h1 (fun r i k => ?_)
  by_cases z : r = 21 ∧ i = 0
  · obtain ⟨rfl, rfl⟩ := z; exact h2 k
  · exact h3 r i k z
theorem cpU_f (M : gM) (a b k : Nat) {r i : Nat} (h : ¬ (r = 21 ∧ i = 0)) (j : Nat) : (cpU M a b k).2 r i j = M.2 r i j := by unfold cpU; rw [setL_r, if_neg h]
theorem cpD_f (M : gM) (a b n k : Nat) {r i : Nat} (h : ¬ (r = 21 ∧ i = 0)) (j : Nat) : (cpD M a b n k).2 r i j = M.2 r i j := by unfold cpD; rw [setL_r, if_neg h]
theorem cpU_z (M : gM) (a b : Nat) : cpU M a b 0 = M := L_ext rfl (fun j => by rw [cpU_r, if_neg (by omega)]) (fun r i k h => cpU_f M a b 0 h k)
theorem cpD_z (M : gM) (a b n : Nat) : cpD M a b n 0 = M := L_ext rfl (fun j => by rw [cpD_r, if_neg (by omega)]) (fun r i k h => cpD_f M a b n 0 h k)
theorem cpD_e (M : gM) (a b n : Nat) : cpD M a b n n = cpU M a b n := L_ext rfl (fun j => by rw [cpD_r, cpU_r, Nat.sub_self, Nat.add_zero]) (fun r i k h => by rw [cpD_f M a b n n h, cpU_f M a b n h])
theorem cpU_s (M : gM) (a b k : Nat) (h : ¬ (b ≤ a + k ∧ a + k < b + k)) : setl (cpU M a b k) 21 0 (b + k) ((cpU M a b k).2 21 0 (a + k)) = cpU M a b (k + 1) := by
  refine L_ext rfl (fun j => ?_) (fun r i k' z => by rw [setl_r, if_neg (by omega), cpU_f M _ _ _ z, cpU_f M _ _ _ z])
  rw [setl_r, cpU_r, cpU_r, cpU_r, if_neg h]
  by_cases q : j = b + k
  · rw [if_pos ⟨rfl, rfl, q⟩, if_pos (by omega), show a + (j - b) = a + k by omega]
  · rw [if_neg (by omega)]
    by_cases y : b ≤ j ∧ j < b + k
    · rw [if_pos y, if_pos (by omega)]
    · rw [if_neg y, if_neg (by omega)]
theorem cpD_s (M : gM) (a b n k : Nat) (hk : k < n) (h : ¬ (b + (n - k) ≤ a + (n - 1 - k) ∧ a + (n - 1 - k) < b + n)) : setl (cpD M a b n k) 21 0 (b + (n - 1 - k)) ((cpD M a b n k).2 21 0 (a + (n - 1 - k))) = cpD M a b n (k + 1) := by
  refine L_ext rfl (fun j => ?_) (fun r i k' z => by rw [setl_r, if_neg (by omega), cpD_f M _ _ _ _ z, cpD_f M _ _ _ _ z])
  rw [setl_r, cpD_r, cpD_r, cpD_r, if_neg h]
  by_cases q : j = b + (n - 1 - k)
  · rw [if_pos ⟨rfl, rfl, q⟩, if_pos (by omega), show a + (j - b) = a + (n - 1 - k) by omega]
  · rw [if_neg (by omega)]
    by_cases y : b + (n - k) ≤ j ∧ j < b + n
    · rw [if_pos y, if_pos (by omega)]
    · rw [if_neg y, if_neg (by omega)]
set_option maxHeartbeats 4000000 in
set_option maxRecDepth 100000 in
theorem t_X8_notCopied {G : gG} {M : gM} {A : gA} {xs f xt o n : Int32} (hc : mdlP M A) (hw : wfA A) : Cf G mX8_notCopied 2 [.ref (ad G 15 0), .int xs, .int f, .int xt, .int o, .int n] M (some (.int (ncF A xs f xt o n))) M := by
  obtain ⟨hwf, hday, hwk, hk2, hl, hT, hsh⟩ := id hw
  obtain ⟨w0, w1, w2, w3, wr, wt⟩ := id hwf
  obtain ⟨h, hKp, hkk, hlp, htp, hshp, hfp⟩ := id hc
  refine Ct.of (by decide +kernel) (k := 1) (ls0 := [some (.ref (ad G 15 0)), some (.int xs), some (.int f), some (.int xt), some (.int o), some (.int n), none]) rfl rfl (fun _ _ => trivial) ?_
  intro P hR
  refine r_iload1 hR dX8_notCopied_0 ?_
  refine r_cs1v hR ks_X8_200 (by decide) (t_X8_isSheet) (Nat.le_of_ble_eq_true rfl) dX8_notCopied_1 ?_
  refine r_if_eq hR 14 dX8_notCopied_4 (by decide) (fun c4 => ?_) (fun c4 => ?_)
  · try simp (disch := omega) only [nI_ltI, nI_leI, nI_eq, bI_0, Decidable.not_not, lc_lt, lc_gt, lc_ge, lc_le, lc_eq, i64_toInt] at c4
    try simp (disch := omega) only [cv_lt, cv_le, cv_eq, nI_toInt, cv_0] at c4
    first
    | omega
    | refine r_ldc hR ct_X8_41 dX8_notCopied_14 ?_
      refine r_iret hR dX8_notCopied_16 ?_
      refine ⟨?_, rfl⟩
      unfold ncF
      rw [if_neg (by dsimp only [okI]; omega)]
  · try simp (disch := omega) only [nI_ltI, nI_leI, nI_eq, bI_0, Decidable.not_not, lc_lt, lc_gt, lc_ge, lc_le, lc_eq, i64_toInt] at c4
    try simp (disch := omega) only [cv_lt, cv_le, cv_eq, nI_toInt, cv_0] at c4
    first
    | omega
    | refine r_iload3 hR dX8_notCopied_7 ?_
      refine r_cs1v hR ks_X8_200 (by decide) (t_X8_isSheet) (Nat.le_of_ble_eq_true rfl) dX8_notCopied_8 ?_
      refine r_if_ne hR 17 dX8_notCopied_11 (by decide) (fun c11 => ?_) (fun c11 => ?_)
      · try simp (disch := omega) only [nI_ltI, nI_leI, nI_eq, bI_0, Decidable.not_not, lc_lt, lc_gt, lc_ge, lc_le, lc_eq, i64_toInt] at c11
        try simp (disch := omega) only [cv_lt, cv_le, cv_eq, nI_toInt, cv_0] at c11
        first
        | omega
        | obtain ⟨s, hs, rfl⟩ := of_in (x := xs) (N := 3) (by omega)
          obtain ⟨t, ht, rfl⟩ := of_in (x := xt) (N := 3) (by omega)
          obtain ⟨g0, g1, g2⟩ := hshp s (by omega)
          have hb9 : ab A s < 100 := by have := (hsh s (by omega)).1; omega
          have hz4 := (hsh s (by omega)).2
          obtain ⟨k0, k1, k2⟩ := hshp t (by omega)
          have hb92 : ab A t < 100 := by have := (hsh t (by omega)).1; omega
          have hz42 := (hsh t (by omega)).2
          have e : ncF A (nI s) f (nI t) o n = (if ab A s = 0 ∨ ab A t = 0 then -1000000006 else if ¬ ab A s = ab A t then -1000000003 else if (0 ≤ f.toInt ∧ 0 ≤ n.toInt ∧ f.toInt + n.toInt ≤ az A s) ∧ (0 ≤ o.toInt ∧ 0 ≤ n.toInt ∧ o.toInt + n.toInt ≤ az A t) then nI 0 else -1000000001) := by
            unfold ncF
            rw [if_pos (by simp (disch := omega) only [okI, nI_toInt]; omega)]
            simp (disch := omega) only [uN_nI]
          refine r_aload0 hR dX8_notCopied_17 ?_
          refine r_get hR (by first | decide | assumption | (simp only [gcnt_4, gcnt_1, gcnt_2, gcnt_3, gcnt_12, gcnt_13, gcnt_16]; omega)) fl_X8_31 rfl rfl dX8_notCopied_18 ?_
          refine r_iload1 hR dX8_notCopied_21 ?_
          refine r_iald hR (by first | decide | assumption | (simp only [gcnt_4, gcnt_1, gcnt_2, gcnt_3, gcnt_12, gcnt_13, gcnt_16]; omega)) rfl rfl (by omega) (by decide) dX8_notCopied_22 ?_
          rw [g0]
          refine r_if_eq hR 35 dX8_notCopied_23 (by decide) (fun c23 => ?_) (fun c23 => ?_)
          · try simp (disch := omega) only [nI_ltI, nI_leI, nI_eq, bI_0, Decidable.not_not, lc_lt, lc_gt, lc_ge, lc_le, lc_eq, i64_toInt] at c23
            try simp (disch := omega) only [cv_lt, cv_le, cv_eq, nI_toInt, cv_0] at c23
            first
            | omega
            | refine r_ldc hR ct_X8_204 dX8_notCopied_35 ?_
              refine r_iret hR dX8_notCopied_37 ?_
              refine ⟨?_, rfl⟩
              rw [e, if_pos (by omega)]
          · try simp (disch := omega) only [nI_ltI, nI_leI, nI_eq, bI_0, Decidable.not_not, lc_lt, lc_gt, lc_ge, lc_le, lc_eq, i64_toInt] at c23
            try simp (disch := omega) only [cv_lt, cv_le, cv_eq, nI_toInt, cv_0] at c23
            first
            | omega
            | refine r_aload0 hR dX8_notCopied_26 ?_
              refine r_get hR (by first | decide | assumption | (simp only [gcnt_4, gcnt_1, gcnt_2, gcnt_3, gcnt_12, gcnt_13, gcnt_16]; omega)) fl_X8_31 rfl rfl dX8_notCopied_27 ?_
              refine r_iload3 hR dX8_notCopied_30 ?_
              refine r_iald hR (by first | decide | assumption | (simp only [gcnt_4, gcnt_1, gcnt_2, gcnt_3, gcnt_12, gcnt_13, gcnt_16]; omega)) rfl rfl (by omega) (by decide) dX8_notCopied_31 ?_
              rw [k0]
              refine r_if_ne hR 38 dX8_notCopied_32 (by decide) (fun c32 => ?_) (fun c32 => ?_)
              · try simp (disch := omega) only [nI_ltI, nI_leI, nI_eq, bI_0, Decidable.not_not, lc_lt, lc_gt, lc_ge, lc_le, lc_eq, i64_toInt] at c32
                try simp (disch := omega) only [cv_lt, cv_le, cv_eq, nI_toInt, cv_0] at c32
                first
                | omega
                | refine r_aload0 hR dX8_notCopied_38 ?_
                  refine r_get hR (by first | decide | assumption | (simp only [gcnt_4, gcnt_1, gcnt_2, gcnt_3, gcnt_12, gcnt_13, gcnt_16]; omega)) fl_X8_31 rfl rfl dX8_notCopied_39 ?_
                  refine r_iload1 hR dX8_notCopied_42 ?_
                  refine r_iald hR (by first | decide | assumption | (simp only [gcnt_4, gcnt_1, gcnt_2, gcnt_3, gcnt_12, gcnt_13, gcnt_16]; omega)) rfl rfl (by omega) (by decide) dX8_notCopied_43 ?_
                  rw [g0]
                  refine r_aload0 hR dX8_notCopied_44 ?_
                  refine r_get hR (by first | decide | assumption | (simp only [gcnt_4, gcnt_1, gcnt_2, gcnt_3, gcnt_12, gcnt_13, gcnt_16]; omega)) fl_X8_31 rfl rfl dX8_notCopied_45 ?_
                  refine r_iload3 hR dX8_notCopied_48 ?_
                  refine r_iald hR (by first | decide | assumption | (simp only [gcnt_4, gcnt_1, gcnt_2, gcnt_3, gcnt_12, gcnt_13, gcnt_16]; omega)) rfl rfl (by omega) (by decide) dX8_notCopied_49 ?_
                  rw [k0]
                  refine r_icmp_eq hR 56 dX8_notCopied_50 (by decide) (fun c50 => ?_) (fun c50 => ?_)
                  · try simp (disch := omega) only [nI_ltI, nI_leI, nI_eq, bI_0, Decidable.not_not, lc_lt, lc_gt, lc_ge, lc_le, lc_eq, i64_toInt] at c50
                    try simp (disch := omega) only [cv_lt, cv_le, cv_eq, nI_toInt, cv_0] at c50
                    first
                    | omega
                    | have J102 : P 102 [some (.ref (ad G 15 0)), some (.int (nI s)), some (.int f), some (.int (nI t)), some (.int o), some (.int n), none] [.int (bI ((0 ≤ f.toInt ∧ 0 ≤ n.toInt ∧ f.toInt + n.toInt ≤ az A s) ∧ (0 ≤ o.toInt ∧ 0 ≤ n.toInt ∧ o.toInt + n.toInt ≤ az A t)))] M := by
                        refine r_istore6 hR (fun _ h => by first | (cases h; rfl) | exact absurd h (by simp)) dX8_notCopied_102 ?_
                        refine r_iload6 hR dX8_notCopied_104 ?_
                        refine r_if_eq hR 113 dX8_notCopied_106 (by decide) (fun c106 => ?_) (fun c106 => ?_)
                        · try simp (disch := omega) only [nI_ltI, nI_leI, nI_eq, bI_0, Decidable.not_not, lc_lt, lc_gt, lc_ge, lc_le, lc_eq, i64_toInt] at c106
                          try simp (disch := omega) only [cv_lt, cv_le, cv_eq, nI_toInt, cv_0] at c106
                          first
                          | omega
                          | refine r_ldc hR ct_X8_41 dX8_notCopied_113 ?_
                            refine r_iret hR dX8_notCopied_115 ?_
                            first
                            | (refine ⟨?_, rfl⟩
                               rw [e, if_neg (by omega), if_neg (by omega), if_pos c106])
                            | (refine ⟨?_, rfl⟩
                               rw [e, if_neg (by omega), if_neg (by omega), if_neg c106])
                        · try simp (disch := omega) only [nI_ltI, nI_leI, nI_eq, bI_0, Decidable.not_not, lc_lt, lc_gt, lc_ge, lc_le, lc_eq, i64_toInt] at c106
                          try simp (disch := omega) only [cv_lt, cv_le, cv_eq, nI_toInt, cv_0] at c106
                          first
                          | omega
                          | refine r_iconst hR (nI 0) (by decide) dX8_notCopied_109 ?_
                            refine r_goto hR 115 dX8_notCopied_110 (by decide) ?_
                            refine r_iret hR dX8_notCopied_115 ?_
                            first
                            | (refine ⟨?_, rfl⟩
                               rw [e, if_neg (by omega), if_neg (by omega), if_pos c106])
                            | (refine ⟨?_, rfl⟩
                               rw [e, if_neg (by omega), if_neg (by omega), if_neg c106])
                      refine r_iload5 hR dX8_notCopied_56 ?_
                      refine r_if_lt hR 101 dX8_notCopied_58 (by decide) (fun c58 => ?_) (fun c58 => ?_)
                      · try simp (disch := omega) only [nI_ltI, nI_leI, nI_eq, bI_0, Decidable.not_not, lc_lt, lc_gt, lc_ge, lc_le, lc_eq, i64_toInt] at c58
                        try simp (disch := omega) only [cv_lt, cv_le, cv_eq, nI_toInt, cv_0] at c58
                        first
                        | omega
                        | refine r_iconst hR (nI 0) (by decide) dX8_notCopied_101 ?_
                          refine r_nm (bI ((0 ≤ f.toInt ∧ 0 ≤ n.toInt ∧ f.toInt + n.toInt ≤ az A s) ∧ (0 ≤ o.toInt ∧ 0 ≤ n.toInt ∧ o.toInt + n.toInt ≤ az A t))) ?_ J102
                          first
                          | exact (bI_t (by omega)).symm
                          | exact (bI_f (by omega)).symm
                      · try simp (disch := omega) only [nI_ltI, nI_leI, nI_eq, bI_0, Decidable.not_not, lc_lt, lc_gt, lc_ge, lc_le, lc_eq, i64_toInt] at c58
                        try simp (disch := omega) only [cv_lt, cv_le, cv_eq, nI_toInt, cv_0] at c58
                        first
                        | omega
                        | refine r_iload2 hR dX8_notCopied_61 ?_
                          refine r_if_lt hR 101 dX8_notCopied_62 (by decide) (fun c62 => ?_) (fun c62 => ?_)
                          · try simp (disch := omega) only [nI_ltI, nI_leI, nI_eq, bI_0, Decidable.not_not, lc_lt, lc_gt, lc_ge, lc_le, lc_eq, i64_toInt] at c62
                            try simp (disch := omega) only [cv_lt, cv_le, cv_eq, nI_toInt, cv_0] at c62
                            first
                            | omega
                            | refine r_iconst hR (nI 0) (by decide) dX8_notCopied_101 ?_
                              refine r_nm (bI ((0 ≤ f.toInt ∧ 0 ≤ n.toInt ∧ f.toInt + n.toInt ≤ az A s) ∧ (0 ≤ o.toInt ∧ 0 ≤ n.toInt ∧ o.toInt + n.toInt ≤ az A t))) ?_ J102
                              first
                              | exact (bI_t (by omega)).symm
                              | exact (bI_f (by omega)).symm
                          · try simp (disch := omega) only [nI_ltI, nI_leI, nI_eq, bI_0, Decidable.not_not, lc_lt, lc_gt, lc_ge, lc_le, lc_eq, i64_toInt] at c62
                            try simp (disch := omega) only [cv_lt, cv_le, cv_eq, nI_toInt, cv_0] at c62
                            first
                            | omega
                            | refine r_iload4 hR dX8_notCopied_65 ?_
                              refine r_if_lt hR 101 dX8_notCopied_67 (by decide) (fun c67 => ?_) (fun c67 => ?_)
                              · try simp (disch := omega) only [nI_ltI, nI_leI, nI_eq, bI_0, Decidable.not_not, lc_lt, lc_gt, lc_ge, lc_le, lc_eq, i64_toInt] at c67
                                try simp (disch := omega) only [cv_lt, cv_le, cv_eq, nI_toInt, cv_0] at c67
                                first
                                | omega
                                | refine r_iconst hR (nI 0) (by decide) dX8_notCopied_101 ?_
                                  refine r_nm (bI ((0 ≤ f.toInt ∧ 0 ≤ n.toInt ∧ f.toInt + n.toInt ≤ az A s) ∧ (0 ≤ o.toInt ∧ 0 ≤ n.toInt ∧ o.toInt + n.toInt ≤ az A t))) ?_ J102
                                  first
                                  | exact (bI_t (by omega)).symm
                                  | exact (bI_f (by omega)).symm
                              · try simp (disch := omega) only [nI_ltI, nI_leI, nI_eq, bI_0, Decidable.not_not, lc_lt, lc_gt, lc_ge, lc_le, lc_eq, i64_toInt] at c67
                                try simp (disch := omega) only [cv_lt, cv_le, cv_eq, nI_toInt, cv_0] at c67
                                first
                                | omega
                                | refine r_iload5 hR dX8_notCopied_70 ?_
                                  refine r_aload0 hR dX8_notCopied_72 ?_
                                  refine r_get hR (by first | decide | assumption | (simp only [gcnt_4, gcnt_1, gcnt_2, gcnt_3, gcnt_12, gcnt_13, gcnt_16]; omega)) fl_X8_34 rfl rfl dX8_notCopied_73 ?_
                                  refine r_iload1 hR dX8_notCopied_76 ?_
                                  refine r_iald hR (by first | decide | assumption | (simp only [gcnt_4, gcnt_1, gcnt_2, gcnt_3, gcnt_12, gcnt_13, gcnt_16]; omega)) rfl rfl (by omega) (by decide) dX8_notCopied_77 ?_
                                  rw [g1]
                                  refine r_iload2 hR dX8_notCopied_78 ?_
                                  refine r_isub hR dX8_notCopied_79 ?_
                                  have hsf := sub_i (f := f) hz4 (by omega)
                                  refine r_icmp_gt hR 101 dX8_notCopied_80 (by decide) (fun c80 => ?_) (fun c80 => ?_)
                                  · try simp (disch := omega) only [nI_ltI, nI_leI, nI_eq, bI_0, Decidable.not_not, lc_lt, lc_gt, lc_ge, lc_le, lc_eq, i64_toInt] at c80
                                    try simp (disch := omega) only [cv_lt, cv_le, cv_eq, nI_toInt, cv_0] at c80
                                    first
                                    | omega
                                    | refine r_iconst hR (nI 0) (by decide) dX8_notCopied_101 ?_
                                      refine r_nm (bI ((0 ≤ f.toInt ∧ 0 ≤ n.toInt ∧ f.toInt + n.toInt ≤ az A s) ∧ (0 ≤ o.toInt ∧ 0 ≤ n.toInt ∧ o.toInt + n.toInt ≤ az A t))) ?_ J102
                                      first
                                      | exact (bI_t (by omega)).symm
                                      | exact (bI_f (by omega)).symm
                                  · try simp (disch := omega) only [nI_ltI, nI_leI, nI_eq, bI_0, Decidable.not_not, lc_lt, lc_gt, lc_ge, lc_le, lc_eq, i64_toInt] at c80
                                    try simp (disch := omega) only [cv_lt, cv_le, cv_eq, nI_toInt, cv_0] at c80
                                    first
                                    | omega
                                    | refine r_iload5 hR dX8_notCopied_83 ?_
                                      refine r_aload0 hR dX8_notCopied_85 ?_
                                      refine r_get hR (by first | decide | assumption | (simp only [gcnt_4, gcnt_1, gcnt_2, gcnt_3, gcnt_12, gcnt_13, gcnt_16]; omega)) fl_X8_34 rfl rfl dX8_notCopied_86 ?_
                                      refine r_iload3 hR dX8_notCopied_89 ?_
                                      refine r_iald hR (by first | decide | assumption | (simp only [gcnt_4, gcnt_1, gcnt_2, gcnt_3, gcnt_12, gcnt_13, gcnt_16]; omega)) rfl rfl (by omega) (by decide) dX8_notCopied_90 ?_
                                      rw [k1]
                                      refine r_iload4 hR dX8_notCopied_91 ?_
                                      refine r_isub hR dX8_notCopied_93 ?_
                                      have hso := sub_i (f := o) hz42 (by omega)
                                      refine r_icmp_gt hR 101 dX8_notCopied_94 (by decide) (fun c94 => ?_) (fun c94 => ?_)
                                      · try simp (disch := omega) only [nI_ltI, nI_leI, nI_eq, bI_0, Decidable.not_not, lc_lt, lc_gt, lc_ge, lc_le, lc_eq, i64_toInt] at c94
                                        try simp (disch := omega) only [cv_lt, cv_le, cv_eq, nI_toInt, cv_0] at c94
                                        first
                                        | omega
                                        | refine r_iconst hR (nI 0) (by decide) dX8_notCopied_101 ?_
                                          refine r_nm (bI ((0 ≤ f.toInt ∧ 0 ≤ n.toInt ∧ f.toInt + n.toInt ≤ az A s) ∧ (0 ≤ o.toInt ∧ 0 ≤ n.toInt ∧ o.toInt + n.toInt ≤ az A t))) ?_ J102
                                          first
                                          | exact (bI_t (by omega)).symm
                                          | exact (bI_f (by omega)).symm
                                      · try simp (disch := omega) only [nI_ltI, nI_leI, nI_eq, bI_0, Decidable.not_not, lc_lt, lc_gt, lc_ge, lc_le, lc_eq, i64_toInt] at c94
                                        try simp (disch := omega) only [cv_lt, cv_le, cv_eq, nI_toInt, cv_0] at c94
                                        first
                                        | omega
                                        | refine r_iconst hR (nI 1) (by decide) dX8_notCopied_97 ?_
                                          refine r_goto hR 102 dX8_notCopied_98 (by decide) ?_
                                          refine r_nm (bI ((0 ≤ f.toInt ∧ 0 ≤ n.toInt ∧ f.toInt + n.toInt ≤ az A s) ∧ (0 ≤ o.toInt ∧ 0 ≤ n.toInt ∧ o.toInt + n.toInt ≤ az A t))) ?_ J102
                                          first
                                          | exact (bI_t (by omega)).symm
                                          | exact (bI_f (by omega)).symm
                  · try simp (disch := omega) only [nI_ltI, nI_leI, nI_eq, bI_0, Decidable.not_not, lc_lt, lc_gt, lc_ge, lc_le, lc_eq, i64_toInt] at c50
                    try simp (disch := omega) only [cv_lt, cv_le, cv_eq, nI_toInt, cv_0] at c50
                    first
                    | omega
                    | refine r_ldc hR ct_X8_104 dX8_notCopied_53 ?_
                      refine r_iret hR dX8_notCopied_55 ?_
                      refine ⟨?_, rfl⟩
                      rw [e, if_neg (by omega), if_pos (by omega)]
              · try simp (disch := omega) only [nI_ltI, nI_leI, nI_eq, bI_0, Decidable.not_not, lc_lt, lc_gt, lc_ge, lc_le, lc_eq, i64_toInt] at c32
                try simp (disch := omega) only [cv_lt, cv_le, cv_eq, nI_toInt, cv_0] at c32
                first
                | omega
                | refine r_ldc hR ct_X8_204 dX8_notCopied_35 ?_
                  refine r_iret hR dX8_notCopied_37 ?_
                  refine ⟨?_, rfl⟩
                  rw [e, if_pos (by omega)]
      · try simp (disch := omega) only [nI_ltI, nI_leI, nI_eq, bI_0, Decidable.not_not, lc_lt, lc_gt, lc_ge, lc_le, lc_eq, i64_toInt] at c11
        try simp (disch := omega) only [cv_lt, cv_le, cv_eq, nI_toInt, cv_0] at c11
        first
        | omega
        | refine r_ldc hR ct_X8_41 dX8_notCopied_14 ?_
          refine r_iret hR dX8_notCopied_16 ?_
          refine ⟨?_, rfl⟩
          unfold ncF
          rw [if_neg (by dsimp only [okI]; omega)]

set_option maxHeartbeats 4000000 in
set_option maxRecDepth 100000 in
theorem t_X8_copy {G : gG} {M : gM} {A : gA} {xs f xt o n : Int32} (hc : mdlP M A) (hw : wfA A) : Ct G mX8_copy 3 [.ref (ad G 15 0), .int xs, .int f, .int xt, .int o, .int n] M (Qm M (oCopy A xs f xt o n)) := by
  obtain ⟨hwf, hday, hwk, hk2, hl, hT, hsh⟩ := id hw
  obtain ⟨w0, w1, w2, w3, wr, wt⟩ := id hwf
  obtain ⟨h, hKp, hkk, hlp, htp, hshp, hfp⟩ := id hc
  refine Ct.of (by decide +kernel) (k := 3) (ls0 := [some (.ref (ad G 15 0)), some (.int xs), some (.int f), some (.int xt), some (.int o), some (.int n), none, none, none]) rfl rfl (fun _ _ => trivial) ?_
  intro P hR
  by_cases h1 : okI xs 0 3 ∧ okI xt 0 3
  · by_cases h2 : ab A (uN xs) = 0 ∨ ab A (uN xt) = 0
    · skip
      have hs : ncF A xs f xt o n = -1000000006 := by unfold ncF; rw [if_pos h1, if_pos h2]
      refine r_aload0 hR dX8_copy_0 ?_
      refine r_iload1 hR dX8_copy_1 ?_
      refine r_iload2 hR dX8_copy_2 ?_
      refine r_iload3 hR dX8_copy_3 ?_
      refine r_iload4 hR dX8_copy_4 ?_
      refine r_iload5 hR dX8_copy_6 ?_
      refine r_cv5v hR kv_X8_212 (by decide) (t_X8_notCopied hc hw) (by first | decide | assumption | (simp only [gcnt_4, gcnt_1, gcnt_2, gcnt_3, gcnt_12, gcnt_13, gcnt_16]; omega)) rfl rfl (Nat.le_of_ble_eq_true rfl) dX8_copy_8 ?_
      rw [hs]
      refine r_istore6 hR (fun _ h => by first | (cases h; rfl) | exact absurd h (by simp)) dX8_copy_11 ?_
      refine r_iload6 hR dX8_copy_13 ?_
      refine r_if_eq hR 25 dX8_copy_15 (by decide) (fun c15 => absurd c15 (by decide)) (fun c15 => ?_)
      refine r_aload0 hR dX8_copy_18 ?_
      refine r_iload6 hR dX8_copy_19 ?_
      refine r_cv1v hR kv_X8_43 (by decide) (t_X8_findsC (n := 5) (by decide) (by decide)) (by first | decide | assumption | (simp only [gcnt_4, gcnt_1, gcnt_2, gcnt_3, gcnt_12, gcnt_13, gcnt_16]; omega)) rfl rfl (Nat.le_of_ble_eq_true rfl) dX8_copy_21 ?_
      refine r_iret hR dX8_copy_24 ?_
      refine Qm_fnd hc (by decide) ?_
      unfold oCopy
      rw [if_pos h1, if_pos h2]
    · by_cases h3 : ¬ ab A (uN xs) = ab A (uN xt)
      · skip
        have hs : ncF A xs f xt o n = -1000000003 := by unfold ncF; rw [if_pos h1, if_neg h2, if_pos h3]
        refine r_aload0 hR dX8_copy_0 ?_
        refine r_iload1 hR dX8_copy_1 ?_
        refine r_iload2 hR dX8_copy_2 ?_
        refine r_iload3 hR dX8_copy_3 ?_
        refine r_iload4 hR dX8_copy_4 ?_
        refine r_iload5 hR dX8_copy_6 ?_
        refine r_cv5v hR kv_X8_212 (by decide) (t_X8_notCopied hc hw) (by first | decide | assumption | (simp only [gcnt_4, gcnt_1, gcnt_2, gcnt_3, gcnt_12, gcnt_13, gcnt_16]; omega)) rfl rfl (Nat.le_of_ble_eq_true rfl) dX8_copy_8 ?_
        rw [hs]
        refine r_istore6 hR (fun _ h => by first | (cases h; rfl) | exact absurd h (by simp)) dX8_copy_11 ?_
        refine r_iload6 hR dX8_copy_13 ?_
        refine r_if_eq hR 25 dX8_copy_15 (by decide) (fun c15 => absurd c15 (by decide)) (fun c15 => ?_)
        refine r_aload0 hR dX8_copy_18 ?_
        refine r_iload6 hR dX8_copy_19 ?_
        refine r_cv1v hR kv_X8_43 (by decide) (t_X8_findsC (n := 2) (by decide) (by decide)) (by first | decide | assumption | (simp only [gcnt_4, gcnt_1, gcnt_2, gcnt_3, gcnt_12, gcnt_13, gcnt_16]; omega)) rfl rfl (Nat.le_of_ble_eq_true rfl) dX8_copy_21 ?_
        refine r_iret hR dX8_copy_24 ?_
        refine Qm_fnd hc (by decide) ?_
        unfold oCopy
        rw [if_pos h1, if_neg h2, if_pos h3]
      · by_cases h4 : ((0 ≤ f.toInt ∧ 0 ≤ n.toInt ∧ f.toInt + n.toInt ≤ az A (uN xs)) ∧ (0 ≤ o.toInt ∧ 0 ≤ n.toInt ∧ o.toInt + n.toInt ≤ az A (uN xt)))
        · have hs : ncF A xs f xt o n = nI 0 := by unfold ncF; rw [if_pos h1, if_neg h2, if_neg h3, if_pos h4]
          have e : oCopy A xs f xt o n = (n, sB A (ab A) (az A) (va_up (an A) (uN xt) (va_cpy (an A (uN xs)) (an A (uN xt)) (uN f) (uN o) (uN n)))) := by
            unfold oCopy
            rw [if_pos h1, if_neg h2, if_neg h3, if_pos h4]
          obtain ⟨s, hs3, rfl⟩ := of_in (x := xs) (N := 3) h1.1
          obtain ⟨t, ht3, rfl⟩ := of_in (x := xt) (N := 3) h1.2
          rw [uN_nI (n := s) (by omega), uN_nI (n := t) (by omega)] at h2 h3 h4 e
          obtain ⟨g0, g1, g2⟩ := hshp s (by omega)
          have hb9 : ab A s < 100 := by have := (hsh s (by omega)).1; omega
          have hz4 := (hsh s (by omega)).2
          obtain ⟨k0, k1, k2⟩ := hshp t (by omega)
          have hb92 : ab A t < 100 := by have := (hsh t (by omega)).1; omega
          have hz42 := (hsh t (by omega)).2
          obtain ⟨⟨p1, p2, p3⟩, p4, p5, p6⟩ := id h4
          obtain ⟨f0, hf0, rfl⟩ := of_in (x := f) (N := 40) (by omega)
          obtain ⟨o0, ho0, rfl⟩ := of_in (x := o) (N := 40) (by omega)
          obtain ⟨n0, hn0, rfl⟩ := of_in (x := n) (N := 40) (by omega)
          simp (disch := omega) only [nI_toInt] at p1 p2 p3 p4 p5 p6
          rw [uN_nI (by omega), uN_nI (by omega), uN_nI (by omega)] at e
          have JF : Qm M (oCopy A (nI s) (nI f0) (nI t) (nI o0) (nI n0)) (some (.int (nI n0))) (cpU M (40 * s + f0) (40 * t + o0) n0) := by
            rw [e]
            refine ⟨rfl, mdlP_sh hc (fun r a k _ _ => rfl) (fun u hu => ⟨(hshp u hu).1, (hshp u hu).2.1, fun j hj => ?_⟩), fun r hr => ⟨rfl, by funext a b; exact cpU_f M _ _ _ (by omega) b⟩⟩
            rw [cpU_r]
            by_cases q : u = t
            · subst q
              rw [vg_s, va_cpy]
              by_cases q2 : o0 ≤ j ∧ j < o0 + n0
              · rw [if_pos (by omega), if_pos q2, show 40 * s + f0 + (40 * u + j - (40 * u + o0)) = 40 * s + (f0 + (j - o0)) by omega]
                exact g2 _ (by omega)
              · rw [if_neg (by omega), if_neg q2]
                exact k2 j hj
            · rw [if_neg (by omega), vg_o q]
              exact (hshp u hu).2.2 j hj
          have Lu : ∀ (j i : Nat) (x8 : Option Value), i + j = n0 → o0 ≤ f0 → P 28 [some (.ref (ad G 15 0)), some (.int (nI s)), some (.int (nI f0)), some (.int (nI t)), some (.int (nI o0)), some (.int (nI n0)), some (.int (nI 0)), some (.int (nI i)), x8] [] (cpU M (40 * s + f0) (40 * t + o0) i) := by
            intro j
            induction j with
            | zero =>
              intro i x8 hij hfo
              refine r_iload7 hR dX8_copy_28 ?_
              refine r_iload5 hR dX8_copy_30 ?_
              refine r_icmp_ge hR 90 dX8_copy_32 (by decide) (fun c32 => ?_) (fun c32 => ?_)
              · try simp (disch := omega) only [nI_ltI, nI_leI, nI_eq, bI_0, Decidable.not_not, lc_lt, lc_gt, lc_ge, lc_le, lc_eq, i64_toInt] at c32
                try simp (disch := omega) only [cv_lt, cv_le, cv_eq, nI_toInt, cv_0] at c32
                first
                | omega
                | refine r_iload5 hR dX8_copy_90 ?_
                  refine r_iret hR dX8_copy_92 ?_
                  first
                  | omega
                  | (obtain rfl : i = n0 := by omega
                     exact JF)
              · try simp (disch := omega) only [nI_ltI, nI_leI, nI_eq, bI_0, Decidable.not_not, lc_lt, lc_gt, lc_ge, lc_le, lc_eq, i64_toInt] at c32
                try simp (disch := omega) only [cv_lt, cv_le, cv_eq, nI_toInt, cv_0] at c32
                first
                | omega
                | refine r_iload2 hR dX8_copy_35 ?_
                  refine r_iload4 hR dX8_copy_36 ?_
                  refine r_icmp_ge hR 51 dX8_copy_38 (by decide) (fun c38 => ?_) (fun c38 => ?_)
                  · try simp (disch := omega) only [nI_ltI, nI_leI, nI_eq, bI_0, Decidable.not_not, lc_lt, lc_gt, lc_ge, lc_le, lc_eq, i64_toInt] at c38
                    try simp (disch := omega) only [cv_lt, cv_le, cv_eq, nI_toInt, cv_0] at c38
                    first
                    | omega
                    | refine r_iload7 hR dX8_copy_51 ?_
                      refine r_istore8 hR (fun _ h => by first | (cases h; rfl) | exact absurd h (by simp)) dX8_copy_53 ?_
                      refine r_aload0 hR dX8_copy_55 ?_
                      refine r_get hR (by first | decide | assumption | (simp only [gcnt_4, gcnt_1, gcnt_2, gcnt_3, gcnt_12, gcnt_13, gcnt_16]; omega)) fl_X8_37 rfl rfl dX8_copy_56 ?_
                      refine r_bipush hR (nI 40) (by decide) dX8_copy_59 ?_
                      refine r_iload3 hR dX8_copy_61 ?_
                      refine r_imul hR dX8_copy_62 ?_
                      try rw [pk_mul]
                      refine r_iload4 hR dX8_copy_63 ?_
                      refine r_iadd hR dX8_copy_65 ?_
                      try rw [nI_add]
                      refine r_iload8 hR dX8_copy_66 ?_
                      refine r_iadd hR dX8_copy_68 ?_
                      try rw [nI_add]
                      refine r_aload0 hR dX8_copy_69 ?_
                      refine r_get hR (by first | decide | assumption | (simp only [gcnt_4, gcnt_1, gcnt_2, gcnt_3, gcnt_12, gcnt_13, gcnt_16]; omega)) fl_X8_37 rfl rfl dX8_copy_70 ?_
                      refine r_bipush hR (nI 40) (by decide) dX8_copy_73 ?_
                      refine r_iload1 hR dX8_copy_75 ?_
                      refine r_imul hR dX8_copy_76 ?_
                      try rw [pk_mul]
                      refine r_iload2 hR dX8_copy_77 ?_
                      refine r_iadd hR dX8_copy_78 ?_
                      try rw [nI_add]
                      refine r_iload8 hR dX8_copy_79 ?_
                      refine r_iadd hR dX8_copy_81 ?_
                      try rw [nI_add]
                      refine r_lald hR (by first | decide | assumption | (simp only [gcnt_4, gcnt_1, gcnt_2, gcnt_3, gcnt_12, gcnt_13, gcnt_16]; omega)) rfl rfl (by omega) (by decide) dX8_copy_82 ?_
                      refine r_last hR (by first | decide | assumption | (simp only [gcnt_4, gcnt_1, gcnt_2, gcnt_3, gcnt_12, gcnt_13, gcnt_16]; omega)) (fun _ => rfl) rfl (by omega) (by decide) dX8_copy_83 ?_
                      refine r_iinc7 hR (nI 1) (by decide) (fun _ h => by first | (cases h; rfl) | exact absurd h (by simp)) dX8_copy_84 ?_
                      try rw [nI_add]
                      refine r_goto hR 28 dX8_copy_87 (by decide) ?_
                      omega
                  · try simp (disch := omega) only [nI_ltI, nI_leI, nI_eq, bI_0, Decidable.not_not, lc_lt, lc_gt, lc_ge, lc_le, lc_eq, i64_toInt] at c38
                    try simp (disch := omega) only [cv_lt, cv_le, cv_eq, nI_toInt, cv_0] at c38
                    first
                    | omega
                    | refine r_iload5 hR dX8_copy_41 ?_
                      refine r_iconst hR (nI 1) (by decide) dX8_copy_43 ?_
                      refine r_isubN hR (by omega) dX8_copy_44 ?_
                      refine r_iload7 hR dX8_copy_45 ?_
                      refine r_isubN hR (by omega) dX8_copy_47 ?_
                      refine r_goto hR 53 dX8_copy_48 (by decide) ?_
                      refine r_istore8 hR (fun _ h => by first | (cases h; rfl) | exact absurd h (by simp)) dX8_copy_53 ?_
                      refine r_aload0 hR dX8_copy_55 ?_
                      refine r_get hR (by first | decide | assumption | (simp only [gcnt_4, gcnt_1, gcnt_2, gcnt_3, gcnt_12, gcnt_13, gcnt_16]; omega)) fl_X8_37 rfl rfl dX8_copy_56 ?_
                      refine r_bipush hR (nI 40) (by decide) dX8_copy_59 ?_
                      refine r_iload3 hR dX8_copy_61 ?_
                      refine r_imul hR dX8_copy_62 ?_
                      try rw [pk_mul]
                      refine r_iload4 hR dX8_copy_63 ?_
                      refine r_iadd hR dX8_copy_65 ?_
                      try rw [nI_add]
                      refine r_iload8 hR dX8_copy_66 ?_
                      refine r_iadd hR dX8_copy_68 ?_
                      try rw [nI_add]
                      refine r_aload0 hR dX8_copy_69 ?_
                      refine r_get hR (by first | decide | assumption | (simp only [gcnt_4, gcnt_1, gcnt_2, gcnt_3, gcnt_12, gcnt_13, gcnt_16]; omega)) fl_X8_37 rfl rfl dX8_copy_70 ?_
                      refine r_bipush hR (nI 40) (by decide) dX8_copy_73 ?_
                      refine r_iload1 hR dX8_copy_75 ?_
                      refine r_imul hR dX8_copy_76 ?_
                      try rw [pk_mul]
                      refine r_iload2 hR dX8_copy_77 ?_
                      refine r_iadd hR dX8_copy_78 ?_
                      try rw [nI_add]
                      refine r_iload8 hR dX8_copy_79 ?_
                      refine r_iadd hR dX8_copy_81 ?_
                      try rw [nI_add]
                      refine r_lald hR (by first | decide | assumption | (simp only [gcnt_4, gcnt_1, gcnt_2, gcnt_3, gcnt_12, gcnt_13, gcnt_16]; omega)) rfl rfl (by omega) (by decide) dX8_copy_82 ?_
                      refine r_last hR (by first | decide | assumption | (simp only [gcnt_4, gcnt_1, gcnt_2, gcnt_3, gcnt_12, gcnt_13, gcnt_16]; omega)) (fun _ => rfl) rfl (by omega) (by decide) dX8_copy_83 ?_
                      refine r_iinc7 hR (nI 1) (by decide) (fun _ h => by first | (cases h; rfl) | exact absurd h (by simp)) dX8_copy_84 ?_
                      try rw [nI_add]
                      refine r_goto hR 28 dX8_copy_87 (by decide) ?_
                      omega
            | succ j ih =>
              intro i x8 hij hfo
              refine r_iload7 hR dX8_copy_28 ?_
              refine r_iload5 hR dX8_copy_30 ?_
              refine r_icmp_ge hR 90 dX8_copy_32 (by decide) (fun c32 => ?_) (fun c32 => ?_)
              · try simp (disch := omega) only [nI_ltI, nI_leI, nI_eq, bI_0, Decidable.not_not, lc_lt, lc_gt, lc_ge, lc_le, lc_eq, i64_toInt] at c32
                try simp (disch := omega) only [cv_lt, cv_le, cv_eq, nI_toInt, cv_0] at c32
                first
                | omega
                | refine r_iload5 hR dX8_copy_90 ?_
                  refine r_iret hR dX8_copy_92 ?_
                  omega
              · try simp (disch := omega) only [nI_ltI, nI_leI, nI_eq, bI_0, Decidable.not_not, lc_lt, lc_gt, lc_ge, lc_le, lc_eq, i64_toInt] at c32
                try simp (disch := omega) only [cv_lt, cv_le, cv_eq, nI_toInt, cv_0] at c32
                first
                | omega
                | refine r_iload2 hR dX8_copy_35 ?_
                  refine r_iload4 hR dX8_copy_36 ?_
                  refine r_icmp_ge hR 51 dX8_copy_38 (by decide) (fun c38 => ?_) (fun c38 => ?_)
                  · try simp (disch := omega) only [nI_ltI, nI_leI, nI_eq, bI_0, Decidable.not_not, lc_lt, lc_gt, lc_ge, lc_le, lc_eq, i64_toInt] at c38
                    try simp (disch := omega) only [cv_lt, cv_le, cv_eq, nI_toInt, cv_0] at c38
                    first
                    | omega
                    | refine r_iload7 hR dX8_copy_51 ?_
                      refine r_istore8 hR (fun _ h => by first | (cases h; rfl) | exact absurd h (by simp)) dX8_copy_53 ?_
                      refine r_aload0 hR dX8_copy_55 ?_
                      refine r_get hR (by first | decide | assumption | (simp only [gcnt_4, gcnt_1, gcnt_2, gcnt_3, gcnt_12, gcnt_13, gcnt_16]; omega)) fl_X8_37 rfl rfl dX8_copy_56 ?_
                      refine r_bipush hR (nI 40) (by decide) dX8_copy_59 ?_
                      refine r_iload3 hR dX8_copy_61 ?_
                      refine r_imul hR dX8_copy_62 ?_
                      try rw [pk_mul]
                      refine r_iload4 hR dX8_copy_63 ?_
                      refine r_iadd hR dX8_copy_65 ?_
                      try rw [nI_add]
                      refine r_iload8 hR dX8_copy_66 ?_
                      refine r_iadd hR dX8_copy_68 ?_
                      try rw [nI_add]
                      refine r_aload0 hR dX8_copy_69 ?_
                      refine r_get hR (by first | decide | assumption | (simp only [gcnt_4, gcnt_1, gcnt_2, gcnt_3, gcnt_12, gcnt_13, gcnt_16]; omega)) fl_X8_37 rfl rfl dX8_copy_70 ?_
                      refine r_bipush hR (nI 40) (by decide) dX8_copy_73 ?_
                      refine r_iload1 hR dX8_copy_75 ?_
                      refine r_imul hR dX8_copy_76 ?_
                      try rw [pk_mul]
                      refine r_iload2 hR dX8_copy_77 ?_
                      refine r_iadd hR dX8_copy_78 ?_
                      try rw [nI_add]
                      refine r_iload8 hR dX8_copy_79 ?_
                      refine r_iadd hR dX8_copy_81 ?_
                      try rw [nI_add]
                      refine r_lald hR (by first | decide | assumption | (simp only [gcnt_4, gcnt_1, gcnt_2, gcnt_3, gcnt_12, gcnt_13, gcnt_16]; omega)) rfl rfl (by omega) (by decide) dX8_copy_82 ?_
                      refine r_last hR (by first | decide | assumption | (simp only [gcnt_4, gcnt_1, gcnt_2, gcnt_3, gcnt_12, gcnt_13, gcnt_16]; omega)) (fun _ => rfl) rfl (by omega) (by decide) dX8_copy_83 ?_
                      refine r_iinc7 hR (nI 1) (by decide) (fun _ h => by first | (cases h; rfl) | exact absurd h (by simp)) dX8_copy_84 ?_
                      try rw [nI_add]
                      refine r_goto hR 28 dX8_copy_87 (by decide) ?_
                      rw [cpU_s M _ _ _ (by by_cases q : s = t <;> omega)]
                      exact ih (i + 1) _ (by omega) hfo
                  · try simp (disch := omega) only [nI_ltI, nI_leI, nI_eq, bI_0, Decidable.not_not, lc_lt, lc_gt, lc_ge, lc_le, lc_eq, i64_toInt] at c38
                    try simp (disch := omega) only [cv_lt, cv_le, cv_eq, nI_toInt, cv_0] at c38
                    first
                    | omega
                    | refine r_iload5 hR dX8_copy_41 ?_
                      refine r_iconst hR (nI 1) (by decide) dX8_copy_43 ?_
                      refine r_isubN hR (by omega) dX8_copy_44 ?_
                      refine r_iload7 hR dX8_copy_45 ?_
                      refine r_isubN hR (by omega) dX8_copy_47 ?_
                      refine r_goto hR 53 dX8_copy_48 (by decide) ?_
                      refine r_istore8 hR (fun _ h => by first | (cases h; rfl) | exact absurd h (by simp)) dX8_copy_53 ?_
                      refine r_aload0 hR dX8_copy_55 ?_
                      refine r_get hR (by first | decide | assumption | (simp only [gcnt_4, gcnt_1, gcnt_2, gcnt_3, gcnt_12, gcnt_13, gcnt_16]; omega)) fl_X8_37 rfl rfl dX8_copy_56 ?_
                      refine r_bipush hR (nI 40) (by decide) dX8_copy_59 ?_
                      refine r_iload3 hR dX8_copy_61 ?_
                      refine r_imul hR dX8_copy_62 ?_
                      try rw [pk_mul]
                      refine r_iload4 hR dX8_copy_63 ?_
                      refine r_iadd hR dX8_copy_65 ?_
                      try rw [nI_add]
                      refine r_iload8 hR dX8_copy_66 ?_
                      refine r_iadd hR dX8_copy_68 ?_
                      try rw [nI_add]
                      refine r_aload0 hR dX8_copy_69 ?_
                      refine r_get hR (by first | decide | assumption | (simp only [gcnt_4, gcnt_1, gcnt_2, gcnt_3, gcnt_12, gcnt_13, gcnt_16]; omega)) fl_X8_37 rfl rfl dX8_copy_70 ?_
                      refine r_bipush hR (nI 40) (by decide) dX8_copy_73 ?_
                      refine r_iload1 hR dX8_copy_75 ?_
                      refine r_imul hR dX8_copy_76 ?_
                      try rw [pk_mul]
                      refine r_iload2 hR dX8_copy_77 ?_
                      refine r_iadd hR dX8_copy_78 ?_
                      try rw [nI_add]
                      refine r_iload8 hR dX8_copy_79 ?_
                      refine r_iadd hR dX8_copy_81 ?_
                      try rw [nI_add]
                      refine r_lald hR (by first | decide | assumption | (simp only [gcnt_4, gcnt_1, gcnt_2, gcnt_3, gcnt_12, gcnt_13, gcnt_16]; omega)) rfl rfl (by omega) (by decide) dX8_copy_82 ?_
                      refine r_last hR (by first | decide | assumption | (simp only [gcnt_4, gcnt_1, gcnt_2, gcnt_3, gcnt_12, gcnt_13, gcnt_16]; omega)) (fun _ => rfl) rfl (by omega) (by decide) dX8_copy_83 ?_
                      refine r_iinc7 hR (nI 1) (by decide) (fun _ h => by first | (cases h; rfl) | exact absurd h (by simp)) dX8_copy_84 ?_
                      try rw [nI_add]
                      refine r_goto hR 28 dX8_copy_87 (by decide) ?_
                      rw [cpU_s M _ _ _ (by by_cases q : s = t <;> omega)]
                      exact ih (i + 1) _ (by omega) hfo
          have Ld : ∀ (j i : Nat) (x8 : Option Value), i + j = n0 → f0 < o0 → P 28 [some (.ref (ad G 15 0)), some (.int (nI s)), some (.int (nI f0)), some (.int (nI t)), some (.int (nI o0)), some (.int (nI n0)), some (.int (nI 0)), some (.int (nI i)), x8] [] (cpD M (40 * s + f0) (40 * t + o0) n0 i) := by
            intro j
            induction j with
            | zero =>
              intro i x8 hij hfo
              refine r_iload7 hR dX8_copy_28 ?_
              refine r_iload5 hR dX8_copy_30 ?_
              refine r_icmp_ge hR 90 dX8_copy_32 (by decide) (fun c32 => ?_) (fun c32 => ?_)
              · try simp (disch := omega) only [nI_ltI, nI_leI, nI_eq, bI_0, Decidable.not_not, lc_lt, lc_gt, lc_ge, lc_le, lc_eq, i64_toInt] at c32
                try simp (disch := omega) only [cv_lt, cv_le, cv_eq, nI_toInt, cv_0] at c32
                first
                | omega
                | refine r_iload5 hR dX8_copy_90 ?_
                  refine r_iret hR dX8_copy_92 ?_
                  first
                  | omega
                  | (obtain rfl : i = n0 := by omega
                     rw [cpD_e]
                     exact JF)
              · try simp (disch := omega) only [nI_ltI, nI_leI, nI_eq, bI_0, Decidable.not_not, lc_lt, lc_gt, lc_ge, lc_le, lc_eq, i64_toInt] at c32
                try simp (disch := omega) only [cv_lt, cv_le, cv_eq, nI_toInt, cv_0] at c32
                first
                | omega
                | refine r_iload2 hR dX8_copy_35 ?_
                  refine r_iload4 hR dX8_copy_36 ?_
                  refine r_icmp_ge hR 51 dX8_copy_38 (by decide) (fun c38 => ?_) (fun c38 => ?_)
                  · try simp (disch := omega) only [nI_ltI, nI_leI, nI_eq, bI_0, Decidable.not_not, lc_lt, lc_gt, lc_ge, lc_le, lc_eq, i64_toInt] at c38
                    try simp (disch := omega) only [cv_lt, cv_le, cv_eq, nI_toInt, cv_0] at c38
                    first
                    | omega
                    | refine r_iload7 hR dX8_copy_51 ?_
                      refine r_istore8 hR (fun _ h => by first | (cases h; rfl) | exact absurd h (by simp)) dX8_copy_53 ?_
                      refine r_aload0 hR dX8_copy_55 ?_
                      refine r_get hR (by first | decide | assumption | (simp only [gcnt_4, gcnt_1, gcnt_2, gcnt_3, gcnt_12, gcnt_13, gcnt_16]; omega)) fl_X8_37 rfl rfl dX8_copy_56 ?_
                      refine r_bipush hR (nI 40) (by decide) dX8_copy_59 ?_
                      refine r_iload3 hR dX8_copy_61 ?_
                      refine r_imul hR dX8_copy_62 ?_
                      try rw [pk_mul]
                      refine r_iload4 hR dX8_copy_63 ?_
                      refine r_iadd hR dX8_copy_65 ?_
                      try rw [nI_add]
                      refine r_iload8 hR dX8_copy_66 ?_
                      refine r_iadd hR dX8_copy_68 ?_
                      try rw [nI_add]
                      refine r_aload0 hR dX8_copy_69 ?_
                      refine r_get hR (by first | decide | assumption | (simp only [gcnt_4, gcnt_1, gcnt_2, gcnt_3, gcnt_12, gcnt_13, gcnt_16]; omega)) fl_X8_37 rfl rfl dX8_copy_70 ?_
                      refine r_bipush hR (nI 40) (by decide) dX8_copy_73 ?_
                      refine r_iload1 hR dX8_copy_75 ?_
                      refine r_imul hR dX8_copy_76 ?_
                      try rw [pk_mul]
                      refine r_iload2 hR dX8_copy_77 ?_
                      refine r_iadd hR dX8_copy_78 ?_
                      try rw [nI_add]
                      refine r_iload8 hR dX8_copy_79 ?_
                      refine r_iadd hR dX8_copy_81 ?_
                      try rw [nI_add]
                      refine r_lald hR (by first | decide | assumption | (simp only [gcnt_4, gcnt_1, gcnt_2, gcnt_3, gcnt_12, gcnt_13, gcnt_16]; omega)) rfl rfl (by omega) (by decide) dX8_copy_82 ?_
                      refine r_last hR (by first | decide | assumption | (simp only [gcnt_4, gcnt_1, gcnt_2, gcnt_3, gcnt_12, gcnt_13, gcnt_16]; omega)) (fun _ => rfl) rfl (by omega) (by decide) dX8_copy_83 ?_
                      refine r_iinc7 hR (nI 1) (by decide) (fun _ h => by first | (cases h; rfl) | exact absurd h (by simp)) dX8_copy_84 ?_
                      try rw [nI_add]
                      refine r_goto hR 28 dX8_copy_87 (by decide) ?_
                      omega
                  · try simp (disch := omega) only [nI_ltI, nI_leI, nI_eq, bI_0, Decidable.not_not, lc_lt, lc_gt, lc_ge, lc_le, lc_eq, i64_toInt] at c38
                    try simp (disch := omega) only [cv_lt, cv_le, cv_eq, nI_toInt, cv_0] at c38
                    first
                    | omega
                    | refine r_iload5 hR dX8_copy_41 ?_
                      refine r_iconst hR (nI 1) (by decide) dX8_copy_43 ?_
                      refine r_isubN hR (by omega) dX8_copy_44 ?_
                      refine r_iload7 hR dX8_copy_45 ?_
                      refine r_isubN hR (by omega) dX8_copy_47 ?_
                      refine r_goto hR 53 dX8_copy_48 (by decide) ?_
                      refine r_istore8 hR (fun _ h => by first | (cases h; rfl) | exact absurd h (by simp)) dX8_copy_53 ?_
                      refine r_aload0 hR dX8_copy_55 ?_
                      refine r_get hR (by first | decide | assumption | (simp only [gcnt_4, gcnt_1, gcnt_2, gcnt_3, gcnt_12, gcnt_13, gcnt_16]; omega)) fl_X8_37 rfl rfl dX8_copy_56 ?_
                      refine r_bipush hR (nI 40) (by decide) dX8_copy_59 ?_
                      refine r_iload3 hR dX8_copy_61 ?_
                      refine r_imul hR dX8_copy_62 ?_
                      try rw [pk_mul]
                      refine r_iload4 hR dX8_copy_63 ?_
                      refine r_iadd hR dX8_copy_65 ?_
                      try rw [nI_add]
                      refine r_iload8 hR dX8_copy_66 ?_
                      refine r_iadd hR dX8_copy_68 ?_
                      try rw [nI_add]
                      refine r_aload0 hR dX8_copy_69 ?_
                      refine r_get hR (by first | decide | assumption | (simp only [gcnt_4, gcnt_1, gcnt_2, gcnt_3, gcnt_12, gcnt_13, gcnt_16]; omega)) fl_X8_37 rfl rfl dX8_copy_70 ?_
                      refine r_bipush hR (nI 40) (by decide) dX8_copy_73 ?_
                      refine r_iload1 hR dX8_copy_75 ?_
                      refine r_imul hR dX8_copy_76 ?_
                      try rw [pk_mul]
                      refine r_iload2 hR dX8_copy_77 ?_
                      refine r_iadd hR dX8_copy_78 ?_
                      try rw [nI_add]
                      refine r_iload8 hR dX8_copy_79 ?_
                      refine r_iadd hR dX8_copy_81 ?_
                      try rw [nI_add]
                      refine r_lald hR (by first | decide | assumption | (simp only [gcnt_4, gcnt_1, gcnt_2, gcnt_3, gcnt_12, gcnt_13, gcnt_16]; omega)) rfl rfl (by omega) (by decide) dX8_copy_82 ?_
                      refine r_last hR (by first | decide | assumption | (simp only [gcnt_4, gcnt_1, gcnt_2, gcnt_3, gcnt_12, gcnt_13, gcnt_16]; omega)) (fun _ => rfl) rfl (by omega) (by decide) dX8_copy_83 ?_
                      refine r_iinc7 hR (nI 1) (by decide) (fun _ h => by first | (cases h; rfl) | exact absurd h (by simp)) dX8_copy_84 ?_
                      try rw [nI_add]
                      refine r_goto hR 28 dX8_copy_87 (by decide) ?_
                      omega
            | succ j ih =>
              intro i x8 hij hfo
              refine r_iload7 hR dX8_copy_28 ?_
              refine r_iload5 hR dX8_copy_30 ?_
              refine r_icmp_ge hR 90 dX8_copy_32 (by decide) (fun c32 => ?_) (fun c32 => ?_)
              · try simp (disch := omega) only [nI_ltI, nI_leI, nI_eq, bI_0, Decidable.not_not, lc_lt, lc_gt, lc_ge, lc_le, lc_eq, i64_toInt] at c32
                try simp (disch := omega) only [cv_lt, cv_le, cv_eq, nI_toInt, cv_0] at c32
                first
                | omega
                | refine r_iload5 hR dX8_copy_90 ?_
                  refine r_iret hR dX8_copy_92 ?_
                  omega
              · try simp (disch := omega) only [nI_ltI, nI_leI, nI_eq, bI_0, Decidable.not_not, lc_lt, lc_gt, lc_ge, lc_le, lc_eq, i64_toInt] at c32
                try simp (disch := omega) only [cv_lt, cv_le, cv_eq, nI_toInt, cv_0] at c32
                first
                | omega
                | refine r_iload2 hR dX8_copy_35 ?_
                  refine r_iload4 hR dX8_copy_36 ?_
                  refine r_icmp_ge hR 51 dX8_copy_38 (by decide) (fun c38 => ?_) (fun c38 => ?_)
                  · try simp (disch := omega) only [nI_ltI, nI_leI, nI_eq, bI_0, Decidable.not_not, lc_lt, lc_gt, lc_ge, lc_le, lc_eq, i64_toInt] at c38
                    try simp (disch := omega) only [cv_lt, cv_le, cv_eq, nI_toInt, cv_0] at c38
                    first
                    | omega
                    | refine r_iload7 hR dX8_copy_51 ?_
                      refine r_istore8 hR (fun _ h => by first | (cases h; rfl) | exact absurd h (by simp)) dX8_copy_53 ?_
                      refine r_aload0 hR dX8_copy_55 ?_
                      refine r_get hR (by first | decide | assumption | (simp only [gcnt_4, gcnt_1, gcnt_2, gcnt_3, gcnt_12, gcnt_13, gcnt_16]; omega)) fl_X8_37 rfl rfl dX8_copy_56 ?_
                      refine r_bipush hR (nI 40) (by decide) dX8_copy_59 ?_
                      refine r_iload3 hR dX8_copy_61 ?_
                      refine r_imul hR dX8_copy_62 ?_
                      try rw [pk_mul]
                      refine r_iload4 hR dX8_copy_63 ?_
                      refine r_iadd hR dX8_copy_65 ?_
                      try rw [nI_add]
                      refine r_iload8 hR dX8_copy_66 ?_
                      refine r_iadd hR dX8_copy_68 ?_
                      try rw [nI_add]
                      refine r_aload0 hR dX8_copy_69 ?_
                      refine r_get hR (by first | decide | assumption | (simp only [gcnt_4, gcnt_1, gcnt_2, gcnt_3, gcnt_12, gcnt_13, gcnt_16]; omega)) fl_X8_37 rfl rfl dX8_copy_70 ?_
                      refine r_bipush hR (nI 40) (by decide) dX8_copy_73 ?_
                      refine r_iload1 hR dX8_copy_75 ?_
                      refine r_imul hR dX8_copy_76 ?_
                      try rw [pk_mul]
                      refine r_iload2 hR dX8_copy_77 ?_
                      refine r_iadd hR dX8_copy_78 ?_
                      try rw [nI_add]
                      refine r_iload8 hR dX8_copy_79 ?_
                      refine r_iadd hR dX8_copy_81 ?_
                      try rw [nI_add]
                      refine r_lald hR (by first | decide | assumption | (simp only [gcnt_4, gcnt_1, gcnt_2, gcnt_3, gcnt_12, gcnt_13, gcnt_16]; omega)) rfl rfl (by omega) (by decide) dX8_copy_82 ?_
                      refine r_last hR (by first | decide | assumption | (simp only [gcnt_4, gcnt_1, gcnt_2, gcnt_3, gcnt_12, gcnt_13, gcnt_16]; omega)) (fun _ => rfl) rfl (by omega) (by decide) dX8_copy_83 ?_
                      refine r_iinc7 hR (nI 1) (by decide) (fun _ h => by first | (cases h; rfl) | exact absurd h (by simp)) dX8_copy_84 ?_
                      try rw [nI_add]
                      refine r_goto hR 28 dX8_copy_87 (by decide) ?_
                      rw [cpD_s M _ _ _ _ (by omega) (by by_cases q : s = t <;> omega)]
                      exact ih (i + 1) _ (by omega) hfo
                  · try simp (disch := omega) only [nI_ltI, nI_leI, nI_eq, bI_0, Decidable.not_not, lc_lt, lc_gt, lc_ge, lc_le, lc_eq, i64_toInt] at c38
                    try simp (disch := omega) only [cv_lt, cv_le, cv_eq, nI_toInt, cv_0] at c38
                    first
                    | omega
                    | refine r_iload5 hR dX8_copy_41 ?_
                      refine r_iconst hR (nI 1) (by decide) dX8_copy_43 ?_
                      refine r_isubN hR (by omega) dX8_copy_44 ?_
                      refine r_iload7 hR dX8_copy_45 ?_
                      refine r_isubN hR (by omega) dX8_copy_47 ?_
                      refine r_goto hR 53 dX8_copy_48 (by decide) ?_
                      refine r_istore8 hR (fun _ h => by first | (cases h; rfl) | exact absurd h (by simp)) dX8_copy_53 ?_
                      refine r_aload0 hR dX8_copy_55 ?_
                      refine r_get hR (by first | decide | assumption | (simp only [gcnt_4, gcnt_1, gcnt_2, gcnt_3, gcnt_12, gcnt_13, gcnt_16]; omega)) fl_X8_37 rfl rfl dX8_copy_56 ?_
                      refine r_bipush hR (nI 40) (by decide) dX8_copy_59 ?_
                      refine r_iload3 hR dX8_copy_61 ?_
                      refine r_imul hR dX8_copy_62 ?_
                      try rw [pk_mul]
                      refine r_iload4 hR dX8_copy_63 ?_
                      refine r_iadd hR dX8_copy_65 ?_
                      try rw [nI_add]
                      refine r_iload8 hR dX8_copy_66 ?_
                      refine r_iadd hR dX8_copy_68 ?_
                      try rw [nI_add]
                      refine r_aload0 hR dX8_copy_69 ?_
                      refine r_get hR (by first | decide | assumption | (simp only [gcnt_4, gcnt_1, gcnt_2, gcnt_3, gcnt_12, gcnt_13, gcnt_16]; omega)) fl_X8_37 rfl rfl dX8_copy_70 ?_
                      refine r_bipush hR (nI 40) (by decide) dX8_copy_73 ?_
                      refine r_iload1 hR dX8_copy_75 ?_
                      refine r_imul hR dX8_copy_76 ?_
                      try rw [pk_mul]
                      refine r_iload2 hR dX8_copy_77 ?_
                      refine r_iadd hR dX8_copy_78 ?_
                      try rw [nI_add]
                      refine r_iload8 hR dX8_copy_79 ?_
                      refine r_iadd hR dX8_copy_81 ?_
                      try rw [nI_add]
                      refine r_lald hR (by first | decide | assumption | (simp only [gcnt_4, gcnt_1, gcnt_2, gcnt_3, gcnt_12, gcnt_13, gcnt_16]; omega)) rfl rfl (by omega) (by decide) dX8_copy_82 ?_
                      refine r_last hR (by first | decide | assumption | (simp only [gcnt_4, gcnt_1, gcnt_2, gcnt_3, gcnt_12, gcnt_13, gcnt_16]; omega)) (fun _ => rfl) rfl (by omega) (by decide) dX8_copy_83 ?_
                      refine r_iinc7 hR (nI 1) (by decide) (fun _ h => by first | (cases h; rfl) | exact absurd h (by simp)) dX8_copy_84 ?_
                      try rw [nI_add]
                      refine r_goto hR 28 dX8_copy_87 (by decide) ?_
                      rw [cpD_s M _ _ _ _ (by omega) (by by_cases q : s = t <;> omega)]
                      exact ih (i + 1) _ (by omega) hfo
          refine r_aload0 hR dX8_copy_0 ?_
          refine r_iload1 hR dX8_copy_1 ?_
          refine r_iload2 hR dX8_copy_2 ?_
          refine r_iload3 hR dX8_copy_3 ?_
          refine r_iload4 hR dX8_copy_4 ?_
          refine r_iload5 hR dX8_copy_6 ?_
          refine r_cv5v hR kv_X8_212 (by decide) (t_X8_notCopied hc hw) (by first | decide | assumption | (simp only [gcnt_4, gcnt_1, gcnt_2, gcnt_3, gcnt_12, gcnt_13, gcnt_16]; omega)) rfl rfl (Nat.le_of_ble_eq_true rfl) dX8_copy_8 ?_
          rw [hs]
          refine r_istore6 hR (fun _ h => by first | (cases h; rfl) | exact absurd h (by simp)) dX8_copy_11 ?_
          refine r_iload6 hR dX8_copy_13 ?_
          refine r_if_eq hR 25 dX8_copy_15 (by decide) (fun c15 => ?_) (fun c15 => absurd rfl c15)
          refine r_iconst hR (nI 0) (by decide) dX8_copy_25 ?_
          refine r_istore7 hR (fun _ h => by first | (cases h; rfl) | exact absurd h (by simp)) dX8_copy_26 ?_
          by_cases hfo : f0 < o0
          · refine r_mem (cpD_z M (40 * s + f0) (40 * t + o0) n0).symm ?_
            exact Ld n0 0 _ (by omega) hfo
          · refine r_mem (cpU_z M (40 * s + f0) (40 * t + o0)).symm ?_
            exact Lu n0 0 _ (by omega) (by omega)
        · skip
          have hs : ncF A xs f xt o n = -1000000001 := by unfold ncF; rw [if_pos h1, if_neg h2, if_neg h3, if_neg h4]
          refine r_aload0 hR dX8_copy_0 ?_
          refine r_iload1 hR dX8_copy_1 ?_
          refine r_iload2 hR dX8_copy_2 ?_
          refine r_iload3 hR dX8_copy_3 ?_
          refine r_iload4 hR dX8_copy_4 ?_
          refine r_iload5 hR dX8_copy_6 ?_
          refine r_cv5v hR kv_X8_212 (by decide) (t_X8_notCopied hc hw) (by first | decide | assumption | (simp only [gcnt_4, gcnt_1, gcnt_2, gcnt_3, gcnt_12, gcnt_13, gcnt_16]; omega)) rfl rfl (Nat.le_of_ble_eq_true rfl) dX8_copy_8 ?_
          rw [hs]
          refine r_istore6 hR (fun _ h => by first | (cases h; rfl) | exact absurd h (by simp)) dX8_copy_11 ?_
          refine r_iload6 hR dX8_copy_13 ?_
          refine r_if_eq hR 25 dX8_copy_15 (by decide) (fun c15 => absurd c15 (by decide)) (fun c15 => ?_)
          refine r_aload0 hR dX8_copy_18 ?_
          refine r_iload6 hR dX8_copy_19 ?_
          refine r_cv1v hR kv_X8_43 (by decide) (t_X8_findsC (n := 0) (by decide) (by decide)) (by first | decide | assumption | (simp only [gcnt_4, gcnt_1, gcnt_2, gcnt_3, gcnt_12, gcnt_13, gcnt_16]; omega)) rfl rfl (Nat.le_of_ble_eq_true rfl) dX8_copy_21 ?_
          refine r_iret hR dX8_copy_24 ?_
          refine Qm_fnd hc (by decide) ?_
          unfold oCopy
          rw [if_pos h1, if_neg h2, if_neg h3, if_neg h4]
  · skip
    have hs : ncF A xs f xt o n = -1000000001 := by unfold ncF; rw [if_neg h1]
    refine r_aload0 hR dX8_copy_0 ?_
    refine r_iload1 hR dX8_copy_1 ?_
    refine r_iload2 hR dX8_copy_2 ?_
    refine r_iload3 hR dX8_copy_3 ?_
    refine r_iload4 hR dX8_copy_4 ?_
    refine r_iload5 hR dX8_copy_6 ?_
    refine r_cv5v hR kv_X8_212 (by decide) (t_X8_notCopied hc hw) (by first | decide | assumption | (simp only [gcnt_4, gcnt_1, gcnt_2, gcnt_3, gcnt_12, gcnt_13, gcnt_16]; omega)) rfl rfl (Nat.le_of_ble_eq_true rfl) dX8_copy_8 ?_
    rw [hs]
    refine r_istore6 hR (fun _ h => by first | (cases h; rfl) | exact absurd h (by simp)) dX8_copy_11 ?_
    refine r_iload6 hR dX8_copy_13 ?_
    refine r_if_eq hR 25 dX8_copy_15 (by decide) (fun c15 => absurd c15 (by decide)) (fun c15 => ?_)
    refine r_aload0 hR dX8_copy_18 ?_
    refine r_iload6 hR dX8_copy_19 ?_
    refine r_cv1v hR kv_X8_43 (by decide) (t_X8_findsC (n := 0) (by decide) (by decide)) (by first | decide | assumption | (simp only [gcnt_4, gcnt_1, gcnt_2, gcnt_3, gcnt_12, gcnt_13, gcnt_16]; omega)) rfl rfl (Nat.le_of_ble_eq_true rfl) dX8_copy_21 ?_
    refine r_iret hR dX8_copy_24 ?_
    refine Qm_fnd hc (by decide) ?_
    unfold oCopy
    rw [if_neg h1]

set_option maxHeartbeats 4000000 in
set_option maxRecDepth 100000 in
theorem t_X8_book {G : gG} {M : gM} {A : gA} {x y : Int32} (hc : mdlP M A) (hw : wfA A) : Ct G mX8_book 6 [.ref (ad G 15 0), .int x, .int y] M (Qm M (oBook A x y)) := by
  obtain ⟨hwf, hday, hwk, hk2, hl, hT, hsh⟩ := id hw
  obtain ⟨w0, w1, w2, w3, wr, wt⟩ := id hwf
  obtain ⟨h, hKp, hkk, hlp, htp, hshp, hfp⟩ := id hc
  refine Ct.of (by decide +kernel) (k := 2) (ls0 := [some (.ref (ad G 15 0)), some (.int x), some (.int y), none, none]) rfl rfl (fun _ _ => trivial) ?_
  intro P hR
  by_cases h1 : okI x 0 3
  · by_cases h2 : ab A (uN x) = 0
    · have hs : shF A x y = -1000000006 := by unfold shF; rw [if_pos h1, if_pos h2]
      refine r_aload0 hR dX8_book_0 ?_
      refine r_iload1 hR dX8_book_1 ?_
      refine r_iload2 hR dX8_book_2 ?_
      refine r_cv2v hR kv_X8_216 (by decide) (t_X8_notAsked hc hw) (by first | decide | assumption | (simp only [gcnt_4, gcnt_1, gcnt_2, gcnt_3, gcnt_12, gcnt_13, gcnt_16]; omega)) rfl rfl (Nat.le_of_ble_eq_true rfl) dX8_book_3 ?_
      rw [hs]
      refine r_istore3 hR (fun _ h => by first | (cases h; rfl) | exact absurd h (by simp)) dX8_book_6 ?_
      refine r_iload3 hR dX8_book_7 ?_
      refine r_if_eq hR 17 dX8_book_8 (by decide) (fun c8 => absurd c8 (by decide)) (fun c8 => ?_)
      refine r_aload0 hR dX8_book_11 ?_
      refine r_iload3 hR dX8_book_12 ?_
      refine r_cv1v hR kv_X8_43 (by decide) (t_X8_findsC (n := 5) (by decide) (by decide)) (by first | decide | assumption | (simp only [gcnt_4, gcnt_1, gcnt_2, gcnt_3, gcnt_12, gcnt_13, gcnt_16]; omega)) rfl rfl (Nat.le_of_ble_eq_true rfl) dX8_book_13 ?_
      refine r_iret hR dX8_book_16 ?_
      refine Qm_fnd hc (by decide) ?_
      unfold oBook
      rw [if_pos h1, if_pos h2]
    · by_cases h3 : okT A y
      · have hs : shF A x y = nI 0 := by unfold shF; rw [if_pos h1, if_neg h2, if_pos h3]
        obtain ⟨s, hs3, rfl⟩ := of_in (x := x) (N := 3) h1
        rw [uN_nI (by omega)] at h2
        have h3b := h3
        dsimp only [okT] at h3b
        obtain ⟨t, ht0, rfl⟩ := of_in (x := y) (N := aS A 3 - 1) (by omega)
        have htt : t < aS A 3 := by rw [nI_toInt (by omega)] at h3b; omega
        obtain ⟨g0, g1, g2⟩ := hshp s (by omega)
        have hb9 : ab A s < 100 := by have := (hsh s (by omega)).1; omega
        have hz4 := (hsh s (by omega)).2
        have q0 : thg (aS A) t 0 < 6 := by have := wt t htt; unfold thg; rw [Nat.add_zero]; omega
        have q1 : thg (aS A) t 1 < 36 := by have := wt t htt; unfold thg; omega
        have q2 : thg (aS A) t 2 < 8 := by have := wt t htt; unfold thg; omega
        have q3 : thg (aS A) t 3 ≤ 99999 := by have := wt t htt; unfold thg; omega
        have e : oBook A (nI s) (nI t) = (nI (az A s), sB A (ab A) (az A) (va_up (an A) s (fun j => if j < az A s then cutB (ab A s) (lN (thg (dayN j (aS A)) t 3)) else an A s j))) := by
          unfold oBook
          rw [if_pos h1, uN_nI (by omega), if_neg h2, if_pos h3, uN_nI (by omega)]
        have L : ∀ (j i : Nat), i + j = az A s → P 24 [some (.ref (ad G 15 0)), some (.int (nI s)), some (.int (nI t)), some (.int (nI 0)), some (.int (nI i))] [] (pm (putO (thM M) (40 * s) (fun j => cutB (ab A s) (lN (thg (dayN j (aS A)) t 3))) i) (dayN i (aS A))) := by
          intro j
          induction j with
          | zero =>
            intro i  hij 
            have hP := rowP_pm (putO (thM M) (40 * s) (fun j => cutB (ab A s) (lN (thg (dayN j (aS A)) t 3))) i) (dayN i (aS A))
            have hQ := rowP_pm (putO (thM M) (40 * s) (fun j => cutB (ab A s) (lN (thg (dayN j (aS A)) t 3))) (i + 1)) (dayN i (aS A))
            have wfi : wfS (dayN i (aS A)) := wf_dayN hwf (by omega)
            have e3 := dayN_3 i (aS A)
            have hsb := (day_b (d := i) hwf htt).2
            have p0 : (pm (putO (thM M) (40 * s) (fun j => cutB (ab A s) (lN (thg (dayN j (aS A)) t 3))) i) (dayN i (aS A))).1 20 0 s = nI (ab A s) := by rw [putR_far _ _ _ (by omega), putO_1, cpR_r, if_neg (by omega)]; exact g0
            have p1 : (pm (putO (thM M) (40 * s) (fun j => cutB (ab A s) (lN (thg (dayN j (aS A)) t 3))) i) (dayN i (aS A))).1 20 1 s = nI (az A s) := by rw [putR_far _ _ _ (by omega), putO_1, cpR_r, if_neg (by omega)]; exact g1
            refine r_iload4 hR dX8_book_24 ?_
            refine r_aload0 hR dX8_book_26 ?_
            refine r_get hR (by first | decide | assumption | (simp only [gcnt_4, gcnt_1, gcnt_2, gcnt_3, gcnt_12, gcnt_13, gcnt_16]; omega)) fl_X8_34 rfl rfl dX8_book_27 ?_
            refine r_iload1 hR dX8_book_30 ?_
            refine r_iald hR (by first | decide | assumption | (simp only [gcnt_4, gcnt_1, gcnt_2, gcnt_3, gcnt_12, gcnt_13, gcnt_16]; omega)) rfl rfl (by omega) (by decide) dX8_book_31 ?_
            rw [p1]
            refine r_icmp_ge hR 73 dX8_book_32 (by decide) (fun c32 => ?_) (fun c32 => ?_)
            · try simp (disch := omega) only [nI_ltI, nI_leI, nI_eq, bI_0, Decidable.not_not, lc_lt, lc_gt, lc_ge, lc_le, lc_eq, i64_toInt] at c32
              try simp (disch := omega) only [cv_lt, cv_le, cv_eq, nI_toInt, cv_0] at c32
              first
              | omega
              | refine r_aload0 hR dX8_book_73 ?_
                refine r_cv0u hR kv_X8_127 (by decide) (t_X8_putsBack) (by first | decide | assumption | (simp only [gcnt_4, gcnt_1, gcnt_2, gcnt_3, gcnt_12, gcnt_13, gcnt_16]; omega)) rfl rfl (Nat.le_of_ble_eq_true rfl) dX8_book_74 ?_
                rw [bk_put _ _ (by omega), bk_putO]
                refine r_aload0 hR dX8_book_77 ?_
                refine r_get hR (by first | decide | assumption | (simp only [gcnt_4, gcnt_1, gcnt_2, gcnt_3, gcnt_12, gcnt_13, gcnt_16]; omega)) fl_X8_34 rfl rfl dX8_book_78 ?_
                refine r_iload1 hR dX8_book_81 ?_
                refine r_iald hR (by first | decide | assumption | (simp only [gcnt_4, gcnt_1, gcnt_2, gcnt_3, gcnt_12, gcnt_13, gcnt_16]; omega)) rfl rfl (by omega) (by decide) dX8_book_82 ?_
                rw [putO_1, cpR_r, if_neg (by omega), g1]
                refine r_iret hR dX8_book_83 ?_
                first
                | omega
                | (obtain rfl : i = az A s := by omega
                   unfold Qm
                   rw [e]
                   have eY := eqY_th M
                   refine ⟨rfl, mdlP_sh hc (fun r a k _ z => by rw [putO_1]; exact eY.1 r a k z) (fun u hu => ⟨?_, ?_, fun j hj => ?_⟩), (eY.keepC).tr (keepC_putO _ _ _ _)⟩
                   · rw [putO_1, cpR_r, if_neg (by omega)]; exact (hshp u hu).1
                   · rw [putO_1, cpR_r, if_neg (by omega)]; exact (hshp u hu).2.1
                   · rw [putO_r]
                     by_cases q : u = s
                     · subst q
                       rw [vg_s]
                       by_cases q9 : j < az A u
                       · rw [if_pos (by omega), if_pos q9, Nat.add_sub_cancel_left]
                       · rw [if_neg (by omega), if_neg q9]
                         exact g2 j hj
                     · rw [if_neg (by omega), vg_o q]
                       exact (hshp u hu).2.2 j hj)
            · try simp (disch := omega) only [nI_ltI, nI_leI, nI_eq, bI_0, Decidable.not_not, lc_lt, lc_gt, lc_ge, lc_le, lc_eq, i64_toInt] at c32
              try simp (disch := omega) only [cv_lt, cv_le, cv_eq, nI_toInt, cv_0] at c32
              first
              | omega
              | refine r_aload0 hR dX8_book_35 ?_
                refine r_get hR (by first | decide | assumption | (simp only [gcnt_4, gcnt_1, gcnt_2, gcnt_3, gcnt_12, gcnt_13, gcnt_16]; omega)) fl_X8_37 rfl rfl dX8_book_36 ?_
                refine r_bipush hR (nI 40) (by decide) dX8_book_39 ?_
                refine r_iload1 hR dX8_book_41 ?_
                refine r_imul hR dX8_book_42 ?_
                try rw [pk_mul]
                refine r_iload4 hR dX8_book_43 ?_
                refine r_iadd hR dX8_book_45 ?_
                try rw [nI_add]
                refine r_aload0 hR dX8_book_46 ?_
                refine r_get hR (by first | decide | assumption | (simp only [gcnt_4, gcnt_1, gcnt_2, gcnt_3, gcnt_12, gcnt_13, gcnt_16]; omega)) fl_X8_31 rfl rfl dX8_book_47 ?_
                refine r_iload1 hR dX8_book_50 ?_
                refine r_iald hR (by first | decide | assumption | (simp only [gcnt_4, gcnt_1, gcnt_2, gcnt_3, gcnt_12, gcnt_13, gcnt_16]; omega)) rfl rfl (by omega) (by decide) dX8_book_51 ?_
                rw [p0]
                refine r_aload0 hR dX8_book_52 ?_
                refine r_iload2 hR dX8_book_53 ?_
                refine r_iconst hR (nI 3) (by decide) dX8_book_54 ?_
                refine r_cv2v hR kv_X8_75 (by decide) (t_X8_it hP (by omega) (by decide) (by omega)) (by first | decide | assumption | (simp only [gcnt_4, gcnt_1, gcnt_2, gcnt_3, gcnt_12, gcnt_13, gcnt_16]; omega)) rfl rfl (Nat.le_of_ble_eq_true rfl) dX8_book_55 ?_
                refine r_i2l hR dX8_book_58 ?_
                rw [nI_l (by omega)]
                refine r_cs2v hR ks_X8_208 (by decide) (t_X8_cutTo hb9) (Nat.le_of_ble_eq_true rfl) dX8_book_59 ?_
                refine r_last hR (by first | decide | assumption | (simp only [gcnt_4, gcnt_1, gcnt_2, gcnt_3, gcnt_12, gcnt_13, gcnt_16]; omega)) (fun _ => rfl) rfl (by omega) (by decide) dX8_book_62 ?_
                rw [setl_pm]
                refine r_mem (M2 := (pm (putO (thM M) (40 * s) (fun j => cutB (ab A s) (lN (thg (dayN j (aS A)) t 3))) (i + 1)) (dayN i (aS A)))) (congrArg (fun z => pm z (dayN i (aS A))) (putO_grow (thM M) (40 * s) (fun j => cutB (ab A s) (lN (thg (dayN j (aS A)) t 3))) i)) ?_
                refine r_aload0 hR dX8_book_63 ?_
                refine r_cv0u hR kv_X8_113 (by decide) (t_X8_day hQ wfi) (by first | decide | assumption | (simp only [gcnt_4, gcnt_1, gcnt_2, gcnt_3, gcnt_12, gcnt_13, gcnt_16]; omega)) rfl rfl (Nat.le_of_ble_eq_true rfl) dX8_book_64 ?_
                refine r_iinc4 hR (nI 1) (by decide) (fun _ h => by first | (cases h; rfl) | exact absurd h (by simp)) dX8_book_67 ?_
                try rw [nI_add]
                refine r_goto hR 24 dX8_book_70 (by decide) ?_
                omega
          | succ j ih =>
            intro i  hij 
            have hP := rowP_pm (putO (thM M) (40 * s) (fun j => cutB (ab A s) (lN (thg (dayN j (aS A)) t 3))) i) (dayN i (aS A))
            have hQ := rowP_pm (putO (thM M) (40 * s) (fun j => cutB (ab A s) (lN (thg (dayN j (aS A)) t 3))) (i + 1)) (dayN i (aS A))
            have wfi : wfS (dayN i (aS A)) := wf_dayN hwf (by omega)
            have e3 := dayN_3 i (aS A)
            have hsb := (day_b (d := i) hwf htt).2
            have p0 : (pm (putO (thM M) (40 * s) (fun j => cutB (ab A s) (lN (thg (dayN j (aS A)) t 3))) i) (dayN i (aS A))).1 20 0 s = nI (ab A s) := by rw [putR_far _ _ _ (by omega), putO_1, cpR_r, if_neg (by omega)]; exact g0
            have p1 : (pm (putO (thM M) (40 * s) (fun j => cutB (ab A s) (lN (thg (dayN j (aS A)) t 3))) i) (dayN i (aS A))).1 20 1 s = nI (az A s) := by rw [putR_far _ _ _ (by omega), putO_1, cpR_r, if_neg (by omega)]; exact g1
            refine r_iload4 hR dX8_book_24 ?_
            refine r_aload0 hR dX8_book_26 ?_
            refine r_get hR (by first | decide | assumption | (simp only [gcnt_4, gcnt_1, gcnt_2, gcnt_3, gcnt_12, gcnt_13, gcnt_16]; omega)) fl_X8_34 rfl rfl dX8_book_27 ?_
            refine r_iload1 hR dX8_book_30 ?_
            refine r_iald hR (by first | decide | assumption | (simp only [gcnt_4, gcnt_1, gcnt_2, gcnt_3, gcnt_12, gcnt_13, gcnt_16]; omega)) rfl rfl (by omega) (by decide) dX8_book_31 ?_
            rw [p1]
            refine r_icmp_ge hR 73 dX8_book_32 (by decide) (fun c32 => ?_) (fun c32 => ?_)
            · try simp (disch := omega) only [nI_ltI, nI_leI, nI_eq, bI_0, Decidable.not_not, lc_lt, lc_gt, lc_ge, lc_le, lc_eq, i64_toInt] at c32
              try simp (disch := omega) only [cv_lt, cv_le, cv_eq, nI_toInt, cv_0] at c32
              first
              | omega
              | refine r_aload0 hR dX8_book_73 ?_
                refine r_cv0u hR kv_X8_127 (by decide) (t_X8_putsBack) (by first | decide | assumption | (simp only [gcnt_4, gcnt_1, gcnt_2, gcnt_3, gcnt_12, gcnt_13, gcnt_16]; omega)) rfl rfl (Nat.le_of_ble_eq_true rfl) dX8_book_74 ?_
                rw [bk_put _ _ (by omega), bk_putO]
                refine r_aload0 hR dX8_book_77 ?_
                refine r_get hR (by first | decide | assumption | (simp only [gcnt_4, gcnt_1, gcnt_2, gcnt_3, gcnt_12, gcnt_13, gcnt_16]; omega)) fl_X8_34 rfl rfl dX8_book_78 ?_
                refine r_iload1 hR dX8_book_81 ?_
                refine r_iald hR (by first | decide | assumption | (simp only [gcnt_4, gcnt_1, gcnt_2, gcnt_3, gcnt_12, gcnt_13, gcnt_16]; omega)) rfl rfl (by omega) (by decide) dX8_book_82 ?_
                rw [putO_1, cpR_r, if_neg (by omega), g1]
                refine r_iret hR dX8_book_83 ?_
                first
                | omega
                | (obtain rfl : i = az A s := by omega
                   unfold Qm
                   rw [e]
                   have eY := eqY_th M
                   refine ⟨rfl, mdlP_sh hc (fun r a k _ z => by rw [putO_1]; exact eY.1 r a k z) (fun u hu => ⟨?_, ?_, fun j hj => ?_⟩), (eY.keepC).tr (keepC_putO _ _ _ _)⟩
                   · rw [putO_1, cpR_r, if_neg (by omega)]; exact (hshp u hu).1
                   · rw [putO_1, cpR_r, if_neg (by omega)]; exact (hshp u hu).2.1
                   · rw [putO_r]
                     by_cases q : u = s
                     · subst q
                       rw [vg_s]
                       by_cases q9 : j < az A u
                       · rw [if_pos (by omega), if_pos q9, Nat.add_sub_cancel_left]
                       · rw [if_neg (by omega), if_neg q9]
                         exact g2 j hj
                     · rw [if_neg (by omega), vg_o q]
                       exact (hshp u hu).2.2 j hj)
            · try simp (disch := omega) only [nI_ltI, nI_leI, nI_eq, bI_0, Decidable.not_not, lc_lt, lc_gt, lc_ge, lc_le, lc_eq, i64_toInt] at c32
              try simp (disch := omega) only [cv_lt, cv_le, cv_eq, nI_toInt, cv_0] at c32
              first
              | omega
              | refine r_aload0 hR dX8_book_35 ?_
                refine r_get hR (by first | decide | assumption | (simp only [gcnt_4, gcnt_1, gcnt_2, gcnt_3, gcnt_12, gcnt_13, gcnt_16]; omega)) fl_X8_37 rfl rfl dX8_book_36 ?_
                refine r_bipush hR (nI 40) (by decide) dX8_book_39 ?_
                refine r_iload1 hR dX8_book_41 ?_
                refine r_imul hR dX8_book_42 ?_
                try rw [pk_mul]
                refine r_iload4 hR dX8_book_43 ?_
                refine r_iadd hR dX8_book_45 ?_
                try rw [nI_add]
                refine r_aload0 hR dX8_book_46 ?_
                refine r_get hR (by first | decide | assumption | (simp only [gcnt_4, gcnt_1, gcnt_2, gcnt_3, gcnt_12, gcnt_13, gcnt_16]; omega)) fl_X8_31 rfl rfl dX8_book_47 ?_
                refine r_iload1 hR dX8_book_50 ?_
                refine r_iald hR (by first | decide | assumption | (simp only [gcnt_4, gcnt_1, gcnt_2, gcnt_3, gcnt_12, gcnt_13, gcnt_16]; omega)) rfl rfl (by omega) (by decide) dX8_book_51 ?_
                rw [p0]
                refine r_aload0 hR dX8_book_52 ?_
                refine r_iload2 hR dX8_book_53 ?_
                refine r_iconst hR (nI 3) (by decide) dX8_book_54 ?_
                refine r_cv2v hR kv_X8_75 (by decide) (t_X8_it hP (by omega) (by decide) (by omega)) (by first | decide | assumption | (simp only [gcnt_4, gcnt_1, gcnt_2, gcnt_3, gcnt_12, gcnt_13, gcnt_16]; omega)) rfl rfl (Nat.le_of_ble_eq_true rfl) dX8_book_55 ?_
                refine r_i2l hR dX8_book_58 ?_
                rw [nI_l (by omega)]
                refine r_cs2v hR ks_X8_208 (by decide) (t_X8_cutTo hb9) (Nat.le_of_ble_eq_true rfl) dX8_book_59 ?_
                refine r_last hR (by first | decide | assumption | (simp only [gcnt_4, gcnt_1, gcnt_2, gcnt_3, gcnt_12, gcnt_13, gcnt_16]; omega)) (fun _ => rfl) rfl (by omega) (by decide) dX8_book_62 ?_
                rw [setl_pm]
                refine r_mem (M2 := (pm (putO (thM M) (40 * s) (fun j => cutB (ab A s) (lN (thg (dayN j (aS A)) t 3))) (i + 1)) (dayN i (aS A)))) (congrArg (fun z => pm z (dayN i (aS A))) (putO_grow (thM M) (40 * s) (fun j => cutB (ab A s) (lN (thg (dayN j (aS A)) t 3))) i)) ?_
                refine r_aload0 hR dX8_book_63 ?_
                refine r_cv0u hR kv_X8_113 (by decide) (t_X8_day hQ wfi) (by first | decide | assumption | (simp only [gcnt_4, gcnt_1, gcnt_2, gcnt_3, gcnt_12, gcnt_13, gcnt_16]; omega)) rfl rfl (Nat.le_of_ble_eq_true rfl) dX8_book_64 ?_
                refine r_iinc4 hR (nI 1) (by decide) (fun _ h => by first | (cases h; rfl) | exact absurd h (by simp)) dX8_book_67 ?_
                try rw [nI_add]
                refine r_goto hR 24 dX8_book_70 (by decide) ?_
                refine r_mem (M2 := (pm (putO (thM M) (40 * s) (fun j => cutB (ab A s) (lN (thg (dayN j (aS A)) t 3))) (i + 1)) (dayN (i + 1) (aS A)))) (pm_pm _ _ _ (by rw [dayN_3]; exact (dayN_3 (i + 1) (aS A)).symm)) ?_
                exact ih (i + 1) (by omega)
        refine r_aload0 hR dX8_book_0 ?_
        refine r_iload1 hR dX8_book_1 ?_
        refine r_iload2 hR dX8_book_2 ?_
        refine r_cv2v hR kv_X8_216 (by decide) (t_X8_notAsked hc hw) (by first | decide | assumption | (simp only [gcnt_4, gcnt_1, gcnt_2, gcnt_3, gcnt_12, gcnt_13, gcnt_16]; omega)) rfl rfl (Nat.le_of_ble_eq_true rfl) dX8_book_3 ?_
        rw [hs]
        refine r_istore3 hR (fun _ h => by first | (cases h; rfl) | exact absurd h (by simp)) dX8_book_6 ?_
        refine r_iload3 hR dX8_book_7 ?_
        refine r_if_eq hR 17 dX8_book_8 (by decide) (fun c8 => ?_) (fun c8 => absurd rfl c8)
        refine r_aload0 hR dX8_book_17 ?_
        refine r_cv0u hR kv_X8_124 (by decide) (t_X8_thinks) (by first | decide | assumption | (simp only [gcnt_4, gcnt_1, gcnt_2, gcnt_3, gcnt_12, gcnt_13, gcnt_16]; omega)) rfl rfl (Nat.le_of_ble_eq_true rfl) dX8_book_18 ?_
        refine r_iconst hR (nI 0) (by decide) dX8_book_21 ?_
        refine r_istore4 hR (fun _ h => by first | (cases h; rfl) | exact absurd h (by simp)) dX8_book_22 ?_
        refine r_mem (M2 := (pm (putO (thM M) (40 * s) (fun j => cutB (ab A s) (lN (thg (dayN j (aS A)) t 3))) 0) (dayN 0 (aS A)))) (by rw [putO_z]; exact (pm_id (row_th h)).symm) ?_
        exact L (az A s) 0 (by omega)
      · have hs : shF A x y = -1000000001 := by unfold shF; rw [if_pos h1, if_neg h2, if_neg h3]
        refine r_aload0 hR dX8_book_0 ?_
        refine r_iload1 hR dX8_book_1 ?_
        refine r_iload2 hR dX8_book_2 ?_
        refine r_cv2v hR kv_X8_216 (by decide) (t_X8_notAsked hc hw) (by first | decide | assumption | (simp only [gcnt_4, gcnt_1, gcnt_2, gcnt_3, gcnt_12, gcnt_13, gcnt_16]; omega)) rfl rfl (Nat.le_of_ble_eq_true rfl) dX8_book_3 ?_
        rw [hs]
        refine r_istore3 hR (fun _ h => by first | (cases h; rfl) | exact absurd h (by simp)) dX8_book_6 ?_
        refine r_iload3 hR dX8_book_7 ?_
        refine r_if_eq hR 17 dX8_book_8 (by decide) (fun c8 => absurd c8 (by decide)) (fun c8 => ?_)
        refine r_aload0 hR dX8_book_11 ?_
        refine r_iload3 hR dX8_book_12 ?_
        refine r_cv1v hR kv_X8_43 (by decide) (t_X8_findsC (n := 0) (by decide) (by decide)) (by first | decide | assumption | (simp only [gcnt_4, gcnt_1, gcnt_2, gcnt_3, gcnt_12, gcnt_13, gcnt_16]; omega)) rfl rfl (Nat.le_of_ble_eq_true rfl) dX8_book_13 ?_
        refine r_iret hR dX8_book_16 ?_
        refine Qm_fnd hc (by decide) ?_
        unfold oBook
        rw [if_pos h1, if_neg h2, if_neg h3]
  · have hs : shF A x y = -1000000001 := by unfold shF; rw [if_neg h1]
    refine r_aload0 hR dX8_book_0 ?_
    refine r_iload1 hR dX8_book_1 ?_
    refine r_iload2 hR dX8_book_2 ?_
    refine r_cv2v hR kv_X8_216 (by decide) (t_X8_notAsked hc hw) (by first | decide | assumption | (simp only [gcnt_4, gcnt_1, gcnt_2, gcnt_3, gcnt_12, gcnt_13, gcnt_16]; omega)) rfl rfl (Nat.le_of_ble_eq_true rfl) dX8_book_3 ?_
    rw [hs]
    refine r_istore3 hR (fun _ h => by first | (cases h; rfl) | exact absurd h (by simp)) dX8_book_6 ?_
    refine r_iload3 hR dX8_book_7 ?_
    refine r_if_eq hR 17 dX8_book_8 (by decide) (fun c8 => absurd c8 (by decide)) (fun c8 => ?_)
    refine r_aload0 hR dX8_book_11 ?_
    refine r_iload3 hR dX8_book_12 ?_
    refine r_cv1v hR kv_X8_43 (by decide) (t_X8_findsC (n := 0) (by decide) (by decide)) (by first | decide | assumption | (simp only [gcnt_4, gcnt_1, gcnt_2, gcnt_3, gcnt_12, gcnt_13, gcnt_16]; omega)) rfl rfl (Nat.le_of_ble_eq_true rfl) dX8_book_13 ?_
    refine r_iret hR dX8_book_16 ?_
    refine Qm_fnd hc (by decide) ?_
    unfold oBook
    rw [if_neg h1]

theorem isBk_m {S : Nat → Nat} {t : Nat} {f : Nat → Int64} {i z : Nat} (h : ¬ isBk S t f i = true) (hz : i ≤ z) : ¬ isBk S t f z = true := by
  induction z with
  | zero => obtain rfl : i = 0 := by omega
            exact h
  | succ z ih =>
    by_cases q : i = z + 1
    · subst q; exact h
    · intro y
      unfold isBk at y
      rw [Bool.and_eq_true] at y
      exact ih (by omega) y.1
set_option maxHeartbeats 4000000 in
set_option maxRecDepth 100000 in
theorem t_X8_isBook {G : gG} {M : gM} {S : Nat → Nat} {f : Nat → Int64} {s t z : Nat} (h : rowP M 0 S) (hwf : wfS S) (htt : t < S 3) (hs4 : s < 4) (hd : S 0 + z < 20000) (hz4 : z ≤ 40) (g1 : M.1 20 1 s = nI z) (g2 : ∀ j, j < 40 → M.2 21 0 (40 * s + j) = f j) : Cf G mX8_isBook 6 [.ref (ad G 15 0), .int (nI s), .int (nI t)] M (some (.int (bI (isBk S t f z = true)))) (bkM M) := by
  obtain ⟨w0, w1, w2, w3, wr, wt⟩ := id hwf
  refine Ct.of (by decide +kernel) (k := 2) (ls0 := [some (.ref (ad G 15 0)), some (.int (nI s)), some (.int (nI t)), none, none]) rfl rfl (fun _ _ => trivial) ?_
  intro P hR
  have L : ∀ (j i : Nat), i + j = z → P 5 [some (.ref (ad G 15 0)), some (.int (nI s)), some (.int (nI t)), some (.int (bI (isBk S t f i = true))), some (.int (nI i))] [] (pm M (dayN i S)) := by
    intro j
    induction j with
    | zero =>
      intro i  hij 
      have hP := rowP_pm M (dayN i S)
      have wfi : wfS (dayN i S) := wf_dayN hwf (by omega)
      have e3 := dayN_3 i S
      have hsb := (day_b (d := i) hwf htt).2
      have p1 : (pm M (dayN i S)).1 20 1 s = nI z := by rw [putR_far _ _ _ (by omega)]; exact g1
      have p2 : i < 40 → (pm M (dayN i S)).2 21 0 (40 * s + i) = f i := fun y => g2 i y
      refine r_iload4 hR dX8_isBook_5 ?_
      refine r_aload0 hR dX8_isBook_7 ?_
      refine r_get hR (by first | decide | assumption | (simp only [gcnt_4, gcnt_1, gcnt_2, gcnt_3, gcnt_12, gcnt_13, gcnt_16]; omega)) fl_X8_34 rfl rfl dX8_isBook_8 ?_
      refine r_iload1 hR dX8_isBook_11 ?_
      refine r_iald hR (by first | decide | assumption | (simp only [gcnt_4, gcnt_1, gcnt_2, gcnt_3, gcnt_12, gcnt_13, gcnt_16]; omega)) rfl rfl (by omega) (by decide) dX8_isBook_12 ?_
      rw [p1]
      refine r_icmp_ge hR 59 dX8_isBook_13 (by decide) (fun c13 => ?_) (fun c13 => ?_)
      · try simp (disch := omega) only [nI_ltI, nI_leI, nI_eq, bI_0, Decidable.not_not, lc_lt, lc_gt, lc_ge, lc_le, lc_eq, i64_toInt] at c13
        try simp (disch := omega) only [cv_lt, cv_le, cv_eq, nI_toInt, cv_0] at c13
        first
        | omega
        | refine r_aload0 hR dX8_isBook_59 ?_
          refine r_cv0u hR kv_X8_127 (by decide) (t_X8_putsBack) (by first | decide | assumption | (simp only [gcnt_4, gcnt_1, gcnt_2, gcnt_3, gcnt_12, gcnt_13, gcnt_16]; omega)) rfl rfl (Nat.le_of_ble_eq_true rfl) dX8_isBook_60 ?_
          refine r_iload3 hR dX8_isBook_63 ?_
          refine r_zret hR dX8_isBook_64 bI_n ?_
          refine ⟨congrArg (fun y => some (Value.int y)) (bI_c ?_), bk_put M _ (by omega)⟩
          first
          | exact ⟨fun y => absurd y c17, fun y => absurd y (isBk_m c17 (by omega))⟩
          | (obtain rfl : i = z := by omega
             exact Iff.rfl)
      · try simp (disch := omega) only [nI_ltI, nI_leI, nI_eq, bI_0, Decidable.not_not, lc_lt, lc_gt, lc_ge, lc_le, lc_eq, i64_toInt] at c13
        try simp (disch := omega) only [cv_lt, cv_le, cv_eq, nI_toInt, cv_0] at c13
        first
        | omega
        | refine r_iload3 hR dX8_isBook_16 ?_
          refine r_if_eq hR 59 dX8_isBook_17 (by decide) (fun c17 => ?_) (fun c17 => ?_)
          · try simp (disch := omega) only [nI_ltI, nI_leI, nI_eq, bI_0, Decidable.not_not, lc_lt, lc_gt, lc_ge, lc_le, lc_eq, i64_toInt] at c17
            try simp (disch := omega) only [cv_lt, cv_le, cv_eq, nI_toInt, cv_0] at c17
            first
            | omega
            | refine r_aload0 hR dX8_isBook_59 ?_
              refine r_cv0u hR kv_X8_127 (by decide) (t_X8_putsBack) (by first | decide | assumption | (simp only [gcnt_4, gcnt_1, gcnt_2, gcnt_3, gcnt_12, gcnt_13, gcnt_16]; omega)) rfl rfl (Nat.le_of_ble_eq_true rfl) dX8_isBook_60 ?_
              refine r_iload3 hR dX8_isBook_63 ?_
              refine r_zret hR dX8_isBook_64 bI_n ?_
              refine ⟨congrArg (fun y => some (Value.int y)) (bI_c ?_), bk_put M _ (by omega)⟩
              first
              | exact ⟨fun y => absurd y c17, fun y => absurd y (isBk_m c17 (by omega))⟩
              | (obtain rfl : i = z := by omega
                 exact Iff.rfl)
          · try simp (disch := omega) only [nI_ltI, nI_leI, nI_eq, bI_0, Decidable.not_not, lc_lt, lc_gt, lc_ge, lc_le, lc_eq, i64_toInt] at c17
            try simp (disch := omega) only [cv_lt, cv_le, cv_eq, nI_toInt, cv_0] at c17
            first
            | omega
            | have hib : isBk S t f i = true := c17
              refine r_aload0 hR dX8_isBook_20 ?_
              refine r_get hR (by first | decide | assumption | (simp only [gcnt_4, gcnt_1, gcnt_2, gcnt_3, gcnt_12, gcnt_13, gcnt_16]; omega)) fl_X8_37 rfl rfl dX8_isBook_21 ?_
              refine r_bipush hR (nI 40) (by decide) dX8_isBook_24 ?_
              refine r_iload1 hR dX8_isBook_26 ?_
              refine r_imul hR dX8_isBook_27 ?_
              try rw [pk_mul]
              refine r_iload4 hR dX8_isBook_28 ?_
              refine r_iadd hR dX8_isBook_30 ?_
              try rw [nI_add]
              refine r_lald hR (by first | decide | assumption | (simp only [gcnt_4, gcnt_1, gcnt_2, gcnt_3, gcnt_12, gcnt_13, gcnt_16]; omega)) rfl rfl (by omega) (by decide) dX8_isBook_31 ?_
              rw [p2 (by omega)]
              refine r_aload0 hR dX8_isBook_32 ?_
              refine r_iload2 hR dX8_isBook_33 ?_
              refine r_iconst hR (nI 3) (by decide) dX8_isBook_34 ?_
              refine r_cv2v hR kv_X8_75 (by decide) (t_X8_it hP (by omega) (by decide) (by omega)) (by first | decide | assumption | (simp only [gcnt_4, gcnt_1, gcnt_2, gcnt_3, gcnt_12, gcnt_13, gcnt_16]; omega)) rfl rfl (Nat.le_of_ble_eq_true rfl) dX8_isBook_35 ?_
              refine r_i2l hR dX8_isBook_38 ?_
              rw [nI_l (by omega)]
              refine r_lcmp hR dX8_isBook_39 ?_
              refine r_if_ne hR 47 dX8_isBook_40 (by decide) (fun c40 => ?_) (fun c40 => ?_)
              · try simp (disch := omega) only [nI_ltI, nI_leI, nI_eq, bI_0, Decidable.not_not, lc_lt, lc_gt, lc_ge, lc_le, lc_eq, i64_toInt] at c40
                try simp (disch := omega) only [cv_lt, cv_le, cv_eq, nI_toInt, cv_0] at c40
                first
                | omega
                | refine r_iconst hR (nI 0) (by decide) dX8_isBook_47 ?_
                  omega
              · try simp (disch := omega) only [nI_ltI, nI_leI, nI_eq, bI_0, Decidable.not_not, lc_lt, lc_gt, lc_ge, lc_le, lc_eq, i64_toInt] at c40
                try simp (disch := omega) only [cv_lt, cv_le, cv_eq, nI_toInt, cv_0] at c40
                first
                | omega
                | refine r_iconst hR (nI 1) (by decide) dX8_isBook_43 ?_
                  refine r_goto hR 48 dX8_isBook_44 (by decide) ?_
                  omega
    | succ j ih =>
      intro i  hij 
      have hP := rowP_pm M (dayN i S)
      have wfi : wfS (dayN i S) := wf_dayN hwf (by omega)
      have e3 := dayN_3 i S
      have hsb := (day_b (d := i) hwf htt).2
      have p1 : (pm M (dayN i S)).1 20 1 s = nI z := by rw [putR_far _ _ _ (by omega)]; exact g1
      have p2 : i < 40 → (pm M (dayN i S)).2 21 0 (40 * s + i) = f i := fun y => g2 i y
      refine r_iload4 hR dX8_isBook_5 ?_
      refine r_aload0 hR dX8_isBook_7 ?_
      refine r_get hR (by first | decide | assumption | (simp only [gcnt_4, gcnt_1, gcnt_2, gcnt_3, gcnt_12, gcnt_13, gcnt_16]; omega)) fl_X8_34 rfl rfl dX8_isBook_8 ?_
      refine r_iload1 hR dX8_isBook_11 ?_
      refine r_iald hR (by first | decide | assumption | (simp only [gcnt_4, gcnt_1, gcnt_2, gcnt_3, gcnt_12, gcnt_13, gcnt_16]; omega)) rfl rfl (by omega) (by decide) dX8_isBook_12 ?_
      rw [p1]
      refine r_icmp_ge hR 59 dX8_isBook_13 (by decide) (fun c13 => ?_) (fun c13 => ?_)
      · try simp (disch := omega) only [nI_ltI, nI_leI, nI_eq, bI_0, Decidable.not_not, lc_lt, lc_gt, lc_ge, lc_le, lc_eq, i64_toInt] at c13
        try simp (disch := omega) only [cv_lt, cv_le, cv_eq, nI_toInt, cv_0] at c13
        first
        | omega
        | refine r_aload0 hR dX8_isBook_59 ?_
          refine r_cv0u hR kv_X8_127 (by decide) (t_X8_putsBack) (by first | decide | assumption | (simp only [gcnt_4, gcnt_1, gcnt_2, gcnt_3, gcnt_12, gcnt_13, gcnt_16]; omega)) rfl rfl (Nat.le_of_ble_eq_true rfl) dX8_isBook_60 ?_
          refine r_iload3 hR dX8_isBook_63 ?_
          refine r_zret hR dX8_isBook_64 bI_n ?_
          refine ⟨congrArg (fun y => some (Value.int y)) (bI_c ?_), bk_put M _ (by omega)⟩
          first
          | exact ⟨fun y => absurd y c17, fun y => absurd y (isBk_m c17 (by omega))⟩
          | (obtain rfl : i = z := by omega
             exact Iff.rfl)
      · try simp (disch := omega) only [nI_ltI, nI_leI, nI_eq, bI_0, Decidable.not_not, lc_lt, lc_gt, lc_ge, lc_le, lc_eq, i64_toInt] at c13
        try simp (disch := omega) only [cv_lt, cv_le, cv_eq, nI_toInt, cv_0] at c13
        first
        | omega
        | refine r_iload3 hR dX8_isBook_16 ?_
          refine r_if_eq hR 59 dX8_isBook_17 (by decide) (fun c17 => ?_) (fun c17 => ?_)
          · try simp (disch := omega) only [nI_ltI, nI_leI, nI_eq, bI_0, Decidable.not_not, lc_lt, lc_gt, lc_ge, lc_le, lc_eq, i64_toInt] at c17
            try simp (disch := omega) only [cv_lt, cv_le, cv_eq, nI_toInt, cv_0] at c17
            first
            | omega
            | refine r_aload0 hR dX8_isBook_59 ?_
              refine r_cv0u hR kv_X8_127 (by decide) (t_X8_putsBack) (by first | decide | assumption | (simp only [gcnt_4, gcnt_1, gcnt_2, gcnt_3, gcnt_12, gcnt_13, gcnt_16]; omega)) rfl rfl (Nat.le_of_ble_eq_true rfl) dX8_isBook_60 ?_
              refine r_iload3 hR dX8_isBook_63 ?_
              refine r_zret hR dX8_isBook_64 bI_n ?_
              refine ⟨congrArg (fun y => some (Value.int y)) (bI_c ?_), bk_put M _ (by omega)⟩
              first
              | exact ⟨fun y => absurd y c17, fun y => absurd y (isBk_m c17 (by omega))⟩
              | (obtain rfl : i = z := by omega
                 exact Iff.rfl)
          · try simp (disch := omega) only [nI_ltI, nI_leI, nI_eq, bI_0, Decidable.not_not, lc_lt, lc_gt, lc_ge, lc_le, lc_eq, i64_toInt] at c17
            try simp (disch := omega) only [cv_lt, cv_le, cv_eq, nI_toInt, cv_0] at c17
            first
            | omega
            | have hib : isBk S t f i = true := c17
              have J48 : P 48 [some (.ref (ad G 15 0)), some (.int (nI s)), some (.int (nI t)), some (.int (bI (isBk S t f i = true))), some (.int (nI i))] [.int (bI (f i = lN (thg (dayN i S) t 3)))] (pm M (dayN i S)) := by
                refine r_istore3 hR (fun _ h => by first | (cases h; rfl) | exact absurd h (by simp)) dX8_isBook_48 ?_
                refine r_aload0 hR dX8_isBook_49 ?_
                refine r_cv0u hR kv_X8_113 (by decide) (t_X8_day hP wfi) (by first | decide | assumption | (simp only [gcnt_4, gcnt_1, gcnt_2, gcnt_3, gcnt_12, gcnt_13, gcnt_16]; omega)) rfl rfl (Nat.le_of_ble_eq_true rfl) dX8_isBook_50 ?_
                refine r_iinc4 hR (nI 1) (by decide) (fun _ h => by first | (cases h; rfl) | exact absurd h (by simp)) dX8_isBook_53 ?_
                try rw [nI_add]
                refine r_goto hR 5 dX8_isBook_56 (by decide) ?_
                refine r_mem (M2 := pm M (dayN (i + 1) S)) (pm_pm M _ _ (by rw [dayN_3]; exact (dayN_3 (i + 1) S).symm)) ?_
                have es : (isBk S t f (i + 1) = true) ↔ (f i = lN (thg (dayN i S) t 3)) := by
                  unfold isBk
                  rw [hib]
                  simp
                have ih2 := ih (i + 1) (by omega)
                rw [bI_c es] at ih2
                exact ih2
              refine r_aload0 hR dX8_isBook_20 ?_
              refine r_get hR (by first | decide | assumption | (simp only [gcnt_4, gcnt_1, gcnt_2, gcnt_3, gcnt_12, gcnt_13, gcnt_16]; omega)) fl_X8_37 rfl rfl dX8_isBook_21 ?_
              refine r_bipush hR (nI 40) (by decide) dX8_isBook_24 ?_
              refine r_iload1 hR dX8_isBook_26 ?_
              refine r_imul hR dX8_isBook_27 ?_
              try rw [pk_mul]
              refine r_iload4 hR dX8_isBook_28 ?_
              refine r_iadd hR dX8_isBook_30 ?_
              try rw [nI_add]
              refine r_lald hR (by first | decide | assumption | (simp only [gcnt_4, gcnt_1, gcnt_2, gcnt_3, gcnt_12, gcnt_13, gcnt_16]; omega)) rfl rfl (by omega) (by decide) dX8_isBook_31 ?_
              rw [p2 (by omega)]
              refine r_aload0 hR dX8_isBook_32 ?_
              refine r_iload2 hR dX8_isBook_33 ?_
              refine r_iconst hR (nI 3) (by decide) dX8_isBook_34 ?_
              refine r_cv2v hR kv_X8_75 (by decide) (t_X8_it hP (by omega) (by decide) (by omega)) (by first | decide | assumption | (simp only [gcnt_4, gcnt_1, gcnt_2, gcnt_3, gcnt_12, gcnt_13, gcnt_16]; omega)) rfl rfl (Nat.le_of_ble_eq_true rfl) dX8_isBook_35 ?_
              refine r_i2l hR dX8_isBook_38 ?_
              rw [nI_l (by omega)]
              refine r_lcmp hR dX8_isBook_39 ?_
              refine r_if_ne hR 47 dX8_isBook_40 (by decide) (fun c40 => ?_) (fun c40 => ?_)
              · try simp (disch := omega) only [nI_ltI, nI_leI, nI_eq, bI_0, Decidable.not_not, lc_lt, lc_gt, lc_ge, lc_le, lc_eq, i64_toInt] at c40
                try simp (disch := omega) only [cv_lt, cv_le, cv_eq, nI_toInt, cv_0] at c40
                first
                | omega
                | refine r_iconst hR (nI 0) (by decide) dX8_isBook_47 ?_
                  first
                  | (have hne : (f i = lN (thg (dayN i S) t 3)) := Int64.toInt_inj.mp c40
                     refine r_nm (bI (f i = lN (thg (dayN i S) t 3))) (bI_t hne).symm J48)
                  | (have hne : ¬ (f i = lN (thg (dayN i S) t 3)) := fun q => c40 (by rw [q])
                     refine r_nm (bI (f i = lN (thg (dayN i S) t 3))) (bI_f hne).symm J48)
              · try simp (disch := omega) only [nI_ltI, nI_leI, nI_eq, bI_0, Decidable.not_not, lc_lt, lc_gt, lc_ge, lc_le, lc_eq, i64_toInt] at c40
                try simp (disch := omega) only [cv_lt, cv_le, cv_eq, nI_toInt, cv_0] at c40
                first
                | omega
                | refine r_iconst hR (nI 1) (by decide) dX8_isBook_43 ?_
                  refine r_goto hR 48 dX8_isBook_44 (by decide) ?_
                  first
                  | (have hne : (f i = lN (thg (dayN i S) t 3)) := Int64.toInt_inj.mp c40
                     refine r_nm (bI (f i = lN (thg (dayN i S) t 3))) (bI_t hne).symm J48)
                  | (have hne : ¬ (f i = lN (thg (dayN i S) t 3)) := fun q => c40 (by rw [q])
                     refine r_nm (bI (f i = lN (thg (dayN i S) t 3))) (bI_f hne).symm J48)
  refine r_iconst hR (nI 1) (by decide) dX8_isBook_0 ?_
  refine r_istore3 hR (fun _ h => by first | (cases h; rfl) | exact absurd h (by simp)) dX8_isBook_1 ?_
  refine r_iconst hR (nI 0) (by decide) dX8_isBook_2 ?_
  refine r_istore4 hR (fun _ h => by first | (cases h; rfl) | exact absurd h (by simp)) dX8_isBook_3 ?_
  refine r_mem (M2 := pm M (dayN 0 S)) (pm_id h).symm ?_
  exact L z 0 (by omega)

theorem row_kf {M : gM} {S : Nat → Nat} {t k : Nat} (h : rowP M 0 S) : rowP (seti (seti (thM M) 16 0 (11 + 4 * t + 0) (nI (k / 8))) 16 0 (11 + 4 * t + 2) (nI (k % 8))) 0 (kfS S t k) := by
  unfold kfS
  exact rowP_up (rowP_up (row_th h) (by omega)) (by omega)
set_option maxHeartbeats 4000000 in
set_option maxRecDepth 100000 in
theorem t_X8_read {G : gG} {M : gM} {A : gA} {x y : Int32} (hc : mdlP M A) (hw : wfA A) : Ct G mX8_read 7 [.ref (ad G 15 0), .int x, .int y] M (Qm M (oRead A x y)) := by
  obtain ⟨hwf, hday, hwk, hk2, hl, hT, hsh⟩ := id hw
  obtain ⟨w0, w1, w2, w3, wr, wt⟩ := id hwf
  obtain ⟨h, hKp, hkk, hlp, htp, hshp, hfp⟩ := id hc
  refine Ct.of (by decide +kernel) (k := 3) (ls0 := [some (.ref (ad G 15 0)), some (.int x), some (.int y), none, none, none]) rfl rfl (fun _ _ => trivial) ?_
  intro P hR
  by_cases h1 : okI x 0 3
  · by_cases h2 : ab A (uN x) = 0
    · have hs : shF A x y = -1000000006 := by unfold shF; rw [if_pos h1, if_pos h2]
      refine r_aload0 hR dX8_read_0 ?_
      refine r_iload1 hR dX8_read_1 ?_
      refine r_iload2 hR dX8_read_2 ?_
      refine r_cv2v hR kv_X8_216 (by decide) (t_X8_notAsked hc hw) (by first | decide | assumption | (simp only [gcnt_4, gcnt_1, gcnt_2, gcnt_3, gcnt_12, gcnt_13, gcnt_16]; omega)) rfl rfl (Nat.le_of_ble_eq_true rfl) dX8_read_3 ?_
      rw [hs]
      refine r_istore3 hR (fun _ h => by first | (cases h; rfl) | exact absurd h (by simp)) dX8_read_6 ?_
      refine r_iload3 hR dX8_read_7 ?_
      refine r_if_eq hR 17 dX8_read_8 (by decide) (fun c8 => absurd c8 (by decide)) (fun c8 => ?_)
      refine r_aload0 hR dX8_read_11 ?_
      refine r_iload3 hR dX8_read_12 ?_
      refine r_cv1v hR kv_X8_43 (by decide) (t_X8_findsC (n := 5) (by decide) (by decide)) (by first | decide | assumption | (simp only [gcnt_4, gcnt_1, gcnt_2, gcnt_3, gcnt_12, gcnt_13, gcnt_16]; omega)) rfl rfl (Nat.le_of_ble_eq_true rfl) dX8_read_13 ?_
      refine r_iret hR dX8_read_16 ?_
      refine Qm_fnd hc (by decide) ?_
      unfold oRead
      rw [if_pos h1, if_pos h2]
    · by_cases h3 : okT A y
      · have hs : shF A x y = nI 0 := by unfold shF; rw [if_pos h1, if_neg h2, if_pos h3]
        obtain ⟨s, hs3, rfl⟩ := of_in (x := x) (N := 3) h1
        rw [uN_nI (by omega)] at h2
        have h3b := h3
        dsimp only [okT] at h3b
        obtain ⟨t, ht0, rfl⟩ := of_in (x := y) (N := aS A 3 - 1) (by omega)
        have htt : t < aS A 3 := by rw [nI_toInt (by omega)] at h3b; omega
        obtain ⟨g0, g1, g2⟩ := hshp s (by omega)
        have hb9 : ab A s < 100 := by have := (hsh s (by omega)).1; omega
        have hz4 := (hsh s (by omega)).2
        have q0 : thg (aS A) t 0 < 6 := by have := wt t htt; unfold thg; rw [Nat.add_zero]; omega
        have q1 : thg (aS A) t 1 < 36 := by have := wt t htt; unfold thg; omega
        have q2 : thg (aS A) t 2 < 8 := by have := wt t htt; unfold thg; omega
        have q3 : thg (aS A) t 3 ≤ 99999 := by have := wt t htt; unfold thg; omega
        have e : oRead A (nI s) (nI t) = (nI (rdN (aS A) t (an A s) (az A s) (48)), A) := by
          unfold oRead
          rw [if_pos h1, uN_nI (by omega), if_neg h2, if_pos h3, uN_nI (by omega)]
        have L : ∀ (j i : Nat), i + j = 48 → P 27 [some (.ref (ad G 15 0)), some (.int (nI s)), some (.int (nI t)), some (.int (nI 0)), some (.int (nI (rdN (aS A) t (an A s) (az A s) (i)))), some (.int (nI i))] [] (thM M) := by
          intro j
          induction j with
          | zero =>
            intro i  hij 
            refine r_iload5 hR dX8_read_27 ?_
            refine r_bipush hR (nI 48) (by decide) dX8_read_29 ?_
            refine r_icmp_ge hR 81 dX8_read_31 (by decide) (fun c31 => ?_) (fun c31 => ?_)
            · try simp (disch := omega) only [nI_ltI, nI_leI, nI_eq, bI_0, Decidable.not_not, lc_lt, lc_gt, lc_ge, lc_le, lc_eq, i64_toInt] at c31
              try simp (disch := omega) only [cv_lt, cv_le, cv_eq, nI_toInt, cv_0] at c31
              first
              | omega
              | refine r_iload4 hR dX8_read_81 ?_
                refine r_iret hR dX8_read_83 ?_
                first
                | omega
                | (obtain rfl : i = 48 := by omega
                   exact Qm_eqY (eqY_th M) hc e)
            · try simp (disch := omega) only [nI_ltI, nI_leI, nI_eq, bI_0, Decidable.not_not, lc_lt, lc_gt, lc_ge, lc_le, lc_eq, i64_toInt] at c31
              try simp (disch := omega) only [cv_lt, cv_le, cv_eq, nI_toInt, cv_0] at c31
              first
              | omega
              | refine r_aload0 hR dX8_read_34 ?_
                refine r_iload2 hR dX8_read_35 ?_
                refine r_iconst hR (nI 0) (by decide) dX8_read_36 ?_
                refine r_iload5 hR dX8_read_37 ?_
                refine r_bipush hR (nI 8) (by decide) dX8_read_39 ?_
                refine r_idivN hR (by omega) (by omega) (by omega) dX8_read_41 ?_
                refine r_cv3u hR kv_X8_89 (by decide) (t_X8_put (by omega) (by decide)) (by first | decide | assumption | (simp only [gcnt_4, gcnt_1, gcnt_2, gcnt_3, gcnt_12, gcnt_13, gcnt_16]; omega)) rfl rfl (Nat.le_of_ble_eq_true rfl) dX8_read_42 ?_
                refine r_aload0 hR dX8_read_45 ?_
                refine r_iload2 hR dX8_read_46 ?_
                refine r_iconst hR (nI 2) (by decide) dX8_read_47 ?_
                refine r_iload5 hR dX8_read_48 ?_
                refine r_bipush hR (nI 8) (by decide) dX8_read_50 ?_
                refine r_iremN hR (by omega) (by omega) (by omega) dX8_read_52 ?_
                refine r_cv3u hR kv_X8_89 (by decide) (t_X8_put (by omega) (by decide)) (by first | decide | assumption | (simp only [gcnt_4, gcnt_1, gcnt_2, gcnt_3, gcnt_12, gcnt_13, gcnt_16]; omega)) rfl rfl (Nat.le_of_ble_eq_true rfl) dX8_read_53 ?_
                refine r_iload4 hR dX8_read_56 ?_
                refine r_aload0 hR dX8_read_58 ?_
                refine r_iload1 hR dX8_read_59 ?_
                refine r_iload2 hR dX8_read_60 ?_
                refine r_cv2v hR kv_X8_219 (by decide) (t_X8_isBook (S := kfS (aS A) t i) (f := an A s) (z := az A s) (row_kf h) (wf_kfS hwf htt (by omega)) (by rw [kfS_lo (by omega)]; exact htt) (by omega) (by rw [kfS_lo (by omega)]; omega) hz4 (by rw [seti_r, if_neg (by omega), seti_r, if_neg (by omega), cpR_r, if_neg (by omega)]; exact g1) g2) (by first | decide | assumption | (simp only [gcnt_4, gcnt_1, gcnt_2, gcnt_3, gcnt_12, gcnt_13, gcnt_16]; omega)) rfl rfl (Nat.le_of_ble_eq_true rfl) dX8_read_61 ?_
                rw [bk_seti _ (by omega), bk_seti _ (by omega), bk_th]
                refine r_if_eq hR 71 dX8_read_64 (by decide) (fun c64 => ?_) (fun c64 => ?_)
                · try simp (disch := omega) only [nI_ltI, nI_leI, nI_eq, bI_0, Decidable.not_not, lc_lt, lc_gt, lc_ge, lc_le, lc_eq, i64_toInt] at c64
                  try simp (disch := omega) only [cv_lt, cv_le, cv_eq, nI_toInt, cv_0] at c64
                  first
                  | omega
                  | refine r_iconst hR (nI 0) (by decide) dX8_read_71 ?_
                    refine r_iadd hR dX8_read_72 ?_
                    try rw [nI_add]
                    refine r_istore4 hR (fun _ h => by first | (cases h; rfl) | exact absurd h (by simp)) dX8_read_73 ?_
                    refine r_iinc5 hR (nI 1) (by decide) (fun _ h => by first | (cases h; rfl) | exact absurd h (by simp)) dX8_read_75 ?_
                    try rw [nI_add]
                    refine r_goto hR 27 dX8_read_78 (by decide) ?_
                    omega
                · try simp (disch := omega) only [nI_ltI, nI_leI, nI_eq, bI_0, Decidable.not_not, lc_lt, lc_gt, lc_ge, lc_le, lc_eq, i64_toInt] at c64
                  try simp (disch := omega) only [cv_lt, cv_le, cv_eq, nI_toInt, cv_0] at c64
                  first
                  | omega
                  | refine r_iconst hR (nI 1) (by decide) dX8_read_67 ?_
                    refine r_goto hR 72 dX8_read_68 (by decide) ?_
                    refine r_iadd hR dX8_read_72 ?_
                    try rw [nI_add]
                    refine r_istore4 hR (fun _ h => by first | (cases h; rfl) | exact absurd h (by simp)) dX8_read_73 ?_
                    refine r_iinc5 hR (nI 1) (by decide) (fun _ h => by first | (cases h; rfl) | exact absurd h (by simp)) dX8_read_75 ?_
                    try rw [nI_add]
                    refine r_goto hR 27 dX8_read_78 (by decide) ?_
                    omega
          | succ j ih =>
            intro i  hij 
            refine r_iload5 hR dX8_read_27 ?_
            refine r_bipush hR (nI 48) (by decide) dX8_read_29 ?_
            refine r_icmp_ge hR 81 dX8_read_31 (by decide) (fun c31 => ?_) (fun c31 => ?_)
            · try simp (disch := omega) only [nI_ltI, nI_leI, nI_eq, bI_0, Decidable.not_not, lc_lt, lc_gt, lc_ge, lc_le, lc_eq, i64_toInt] at c31
              try simp (disch := omega) only [cv_lt, cv_le, cv_eq, nI_toInt, cv_0] at c31
              first
              | omega
              | refine r_iload4 hR dX8_read_81 ?_
                refine r_iret hR dX8_read_83 ?_
                first
                | omega
                | (obtain rfl : i = 48 := by omega
                   exact Qm_eqY (eqY_th M) hc e)
            · try simp (disch := omega) only [nI_ltI, nI_leI, nI_eq, bI_0, Decidable.not_not, lc_lt, lc_gt, lc_ge, lc_le, lc_eq, i64_toInt] at c31
              try simp (disch := omega) only [cv_lt, cv_le, cv_eq, nI_toInt, cv_0] at c31
              first
              | omega
              | refine r_aload0 hR dX8_read_34 ?_
                refine r_iload2 hR dX8_read_35 ?_
                refine r_iconst hR (nI 0) (by decide) dX8_read_36 ?_
                refine r_iload5 hR dX8_read_37 ?_
                refine r_bipush hR (nI 8) (by decide) dX8_read_39 ?_
                refine r_idivN hR (by omega) (by omega) (by omega) dX8_read_41 ?_
                refine r_cv3u hR kv_X8_89 (by decide) (t_X8_put (by omega) (by decide)) (by first | decide | assumption | (simp only [gcnt_4, gcnt_1, gcnt_2, gcnt_3, gcnt_12, gcnt_13, gcnt_16]; omega)) rfl rfl (Nat.le_of_ble_eq_true rfl) dX8_read_42 ?_
                refine r_aload0 hR dX8_read_45 ?_
                refine r_iload2 hR dX8_read_46 ?_
                refine r_iconst hR (nI 2) (by decide) dX8_read_47 ?_
                refine r_iload5 hR dX8_read_48 ?_
                refine r_bipush hR (nI 8) (by decide) dX8_read_50 ?_
                refine r_iremN hR (by omega) (by omega) (by omega) dX8_read_52 ?_
                refine r_cv3u hR kv_X8_89 (by decide) (t_X8_put (by omega) (by decide)) (by first | decide | assumption | (simp only [gcnt_4, gcnt_1, gcnt_2, gcnt_3, gcnt_12, gcnt_13, gcnt_16]; omega)) rfl rfl (Nat.le_of_ble_eq_true rfl) dX8_read_53 ?_
                refine r_iload4 hR dX8_read_56 ?_
                refine r_aload0 hR dX8_read_58 ?_
                refine r_iload1 hR dX8_read_59 ?_
                refine r_iload2 hR dX8_read_60 ?_
                refine r_cv2v hR kv_X8_219 (by decide) (t_X8_isBook (S := kfS (aS A) t i) (f := an A s) (z := az A s) (row_kf h) (wf_kfS hwf htt (by omega)) (by rw [kfS_lo (by omega)]; exact htt) (by omega) (by rw [kfS_lo (by omega)]; omega) hz4 (by rw [seti_r, if_neg (by omega), seti_r, if_neg (by omega), cpR_r, if_neg (by omega)]; exact g1) g2) (by first | decide | assumption | (simp only [gcnt_4, gcnt_1, gcnt_2, gcnt_3, gcnt_12, gcnt_13, gcnt_16]; omega)) rfl rfl (Nat.le_of_ble_eq_true rfl) dX8_read_61 ?_
                rw [bk_seti _ (by omega), bk_seti _ (by omega), bk_th]
                refine r_if_eq hR 71 dX8_read_64 (by decide) (fun c64 => ?_) (fun c64 => ?_)
                · try simp (disch := omega) only [nI_ltI, nI_leI, nI_eq, bI_0, Decidable.not_not, lc_lt, lc_gt, lc_ge, lc_le, lc_eq, i64_toInt] at c64
                  try simp (disch := omega) only [cv_lt, cv_le, cv_eq, nI_toInt, cv_0] at c64
                  first
                  | omega
                  | refine r_iconst hR (nI 0) (by decide) dX8_read_71 ?_
                    refine r_iadd hR dX8_read_72 ?_
                    try rw [nI_add]
                    refine r_istore4 hR (fun _ h => by first | (cases h; rfl) | exact absurd h (by simp)) dX8_read_73 ?_
                    refine r_iinc5 hR (nI 1) (by decide) (fun _ h => by first | (cases h; rfl) | exact absurd h (by simp)) dX8_read_75 ?_
                    try rw [nI_add]
                    refine r_goto hR 27 dX8_read_78 (by decide) ?_
                    first
                    | (have er : (rdN (aS A) t (an A s) (az A s) (i + 1)) = (rdN (aS A) t (an A s) (az A s) (i)) + 1 := by rw [rdN_s, if_pos c64]
                       have := ih (i + 1) (by omega)
                       rw [er] at this
                       exact this)
                    | (have er : (rdN (aS A) t (an A s) (az A s) (i + 1)) = (rdN (aS A) t (an A s) (az A s) (i)) + 0 := by rw [rdN_s, if_neg c64]
                       have := ih (i + 1) (by omega)
                       rw [er] at this
                       exact this)
                · try simp (disch := omega) only [nI_ltI, nI_leI, nI_eq, bI_0, Decidable.not_not, lc_lt, lc_gt, lc_ge, lc_le, lc_eq, i64_toInt] at c64
                  try simp (disch := omega) only [cv_lt, cv_le, cv_eq, nI_toInt, cv_0] at c64
                  first
                  | omega
                  | refine r_iconst hR (nI 1) (by decide) dX8_read_67 ?_
                    refine r_goto hR 72 dX8_read_68 (by decide) ?_
                    refine r_iadd hR dX8_read_72 ?_
                    try rw [nI_add]
                    refine r_istore4 hR (fun _ h => by first | (cases h; rfl) | exact absurd h (by simp)) dX8_read_73 ?_
                    refine r_iinc5 hR (nI 1) (by decide) (fun _ h => by first | (cases h; rfl) | exact absurd h (by simp)) dX8_read_75 ?_
                    try rw [nI_add]
                    refine r_goto hR 27 dX8_read_78 (by decide) ?_
                    first
                    | (have er : (rdN (aS A) t (an A s) (az A s) (i + 1)) = (rdN (aS A) t (an A s) (az A s) (i)) + 1 := by rw [rdN_s, if_pos c64]
                       have := ih (i + 1) (by omega)
                       rw [er] at this
                       exact this)
                    | (have er : (rdN (aS A) t (an A s) (az A s) (i + 1)) = (rdN (aS A) t (an A s) (az A s) (i)) + 0 := by rw [rdN_s, if_neg c64]
                       have := ih (i + 1) (by omega)
                       rw [er] at this
                       exact this)
        refine r_aload0 hR dX8_read_0 ?_
        refine r_iload1 hR dX8_read_1 ?_
        refine r_iload2 hR dX8_read_2 ?_
        refine r_cv2v hR kv_X8_216 (by decide) (t_X8_notAsked hc hw) (by first | decide | assumption | (simp only [gcnt_4, gcnt_1, gcnt_2, gcnt_3, gcnt_12, gcnt_13, gcnt_16]; omega)) rfl rfl (Nat.le_of_ble_eq_true rfl) dX8_read_3 ?_
        rw [hs]
        refine r_istore3 hR (fun _ h => by first | (cases h; rfl) | exact absurd h (by simp)) dX8_read_6 ?_
        refine r_iload3 hR dX8_read_7 ?_
        refine r_if_eq hR 17 dX8_read_8 (by decide) (fun c8 => ?_) (fun c8 => absurd rfl c8)
        refine r_aload0 hR dX8_read_17 ?_
        refine r_cv0u hR kv_X8_124 (by decide) (t_X8_thinks) (by first | decide | assumption | (simp only [gcnt_4, gcnt_1, gcnt_2, gcnt_3, gcnt_12, gcnt_13, gcnt_16]; omega)) rfl rfl (Nat.le_of_ble_eq_true rfl) dX8_read_18 ?_
        refine r_iconst hR (nI 0) (by decide) dX8_read_21 ?_
        refine r_istore4 hR (fun _ h => by first | (cases h; rfl) | exact absurd h (by simp)) dX8_read_22 ?_
        refine r_iconst hR (nI 0) (by decide) dX8_read_24 ?_
        refine r_istore5 hR (fun _ h => by first | (cases h; rfl) | exact absurd h (by simp)) dX8_read_25 ?_
        exact L 48 0 rfl
      · have hs : shF A x y = -1000000001 := by unfold shF; rw [if_pos h1, if_neg h2, if_neg h3]
        refine r_aload0 hR dX8_read_0 ?_
        refine r_iload1 hR dX8_read_1 ?_
        refine r_iload2 hR dX8_read_2 ?_
        refine r_cv2v hR kv_X8_216 (by decide) (t_X8_notAsked hc hw) (by first | decide | assumption | (simp only [gcnt_4, gcnt_1, gcnt_2, gcnt_3, gcnt_12, gcnt_13, gcnt_16]; omega)) rfl rfl (Nat.le_of_ble_eq_true rfl) dX8_read_3 ?_
        rw [hs]
        refine r_istore3 hR (fun _ h => by first | (cases h; rfl) | exact absurd h (by simp)) dX8_read_6 ?_
        refine r_iload3 hR dX8_read_7 ?_
        refine r_if_eq hR 17 dX8_read_8 (by decide) (fun c8 => absurd c8 (by decide)) (fun c8 => ?_)
        refine r_aload0 hR dX8_read_11 ?_
        refine r_iload3 hR dX8_read_12 ?_
        refine r_cv1v hR kv_X8_43 (by decide) (t_X8_findsC (n := 0) (by decide) (by decide)) (by first | decide | assumption | (simp only [gcnt_4, gcnt_1, gcnt_2, gcnt_3, gcnt_12, gcnt_13, gcnt_16]; omega)) rfl rfl (Nat.le_of_ble_eq_true rfl) dX8_read_13 ?_
        refine r_iret hR dX8_read_16 ?_
        refine Qm_fnd hc (by decide) ?_
        unfold oRead
        rw [if_pos h1, if_neg h2, if_neg h3]
  · have hs : shF A x y = -1000000001 := by unfold shF; rw [if_neg h1]
    refine r_aload0 hR dX8_read_0 ?_
    refine r_iload1 hR dX8_read_1 ?_
    refine r_iload2 hR dX8_read_2 ?_
    refine r_cv2v hR kv_X8_216 (by decide) (t_X8_notAsked hc hw) (by first | decide | assumption | (simp only [gcnt_4, gcnt_1, gcnt_2, gcnt_3, gcnt_12, gcnt_13, gcnt_16]; omega)) rfl rfl (Nat.le_of_ble_eq_true rfl) dX8_read_3 ?_
    rw [hs]
    refine r_istore3 hR (fun _ h => by first | (cases h; rfl) | exact absurd h (by simp)) dX8_read_6 ?_
    refine r_iload3 hR dX8_read_7 ?_
    refine r_if_eq hR 17 dX8_read_8 (by decide) (fun c8 => absurd c8 (by decide)) (fun c8 => ?_)
    refine r_aload0 hR dX8_read_11 ?_
    refine r_iload3 hR dX8_read_12 ?_
    refine r_cv1v hR kv_X8_43 (by decide) (t_X8_findsC (n := 0) (by decide) (by decide)) (by first | decide | assumption | (simp only [gcnt_4, gcnt_1, gcnt_2, gcnt_3, gcnt_12, gcnt_13, gcnt_16]; omega)) rfl rfl (Nat.le_of_ble_eq_true rfl) dX8_read_13 ?_
    refine r_iret hR dX8_read_16 ?_
    refine Qm_fnd hc (by decide) ?_
    unfold oRead
    rw [if_neg h1]

