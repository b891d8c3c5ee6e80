/-- what tell answers, and what it leaves -/
def QT (M : gM) (T : Nat → Nat) (l : Nat) (S : Nat → Nat) (v : Option Value) (M' : gM) : Prop := v = some (.int (if (seaR T l S).2.1 = 0 ∧ (seaR T l S).2.2.2.1 = 22 then nI (seaR T l S).1 else -1 - nI (seaR T l S).2.2.2.2.1)) ∧ ∃ (S2 : Nat → Nat) (L2 : Lx), M' = lcM (putSea M 1 S2) T l L2 ∧ S2 3 ≤ 8 ∧ ((seaR T l S).2.1 = 0 → S2 = (seaR T l S).2.2.1)
theorem itL_no {T : Nat → Nat} {l j n : Nat} {R : It} (h : ¬ (R.1 = 0 ∧ R.2.2.1 = 21)) : itL T l j n R = (n, R) := by
  cases j with
  | zero => rfl
  | succ j => unfold itL; rw [if_neg h]
theorem itL_yes {T : Nat → Nat} {l j n : Nat} {R : It} (h : R.1 = 0 ∧ R.2.2.1 = 21) : itL T l (j + 1) n R = itL T l j (n + 1) (iteM T l R.2.1 (lexN T l R.2.2.2.2.1)) := by
  conv => lhs; unfold itL
  rw [if_pos h]
theorem itL_n (T : Nat → Nat) (l j : Nat) : ∀ (n : Nat) (R : It), (itL T l j n R).1 ≤ n + j := by
  induction j with
  | zero => intro n R; exact Nat.le_refl _
  | succ j ih =>
    intro n R
    unfold itL
    split
    · have := ih (n + 1) (iteM T l R.2.1 (lexN T l R.2.2.2.2.1))
      omega
    · show n ≤ n + (j + 1)
      omega
theorem iteM_x (T : Nat → Nat) (l : Nat) (S : Nat → Nat) (L : Lx) (h : 11 < L.1) : iteM T l S L = (1, S, L) := by
  unfold iteM
  rw [if_neg (by omega), if_neg (by omega), if_neg (by omega), if_neg (by omega)]
set_option maxHeartbeats 4000000 in
set_option maxRecDepth 100000 in
theorem t_X4_tell {G : gG} {M : gM} {T : Nat → Nat} {l : Nat} (h : ctP M T l) {S : Nat → Nat} (hS : seaP M 1 S) (hwf : wfS S) : Ct G mX4_tell 8 [.ref (ad G 10 0), .ref (ad G 1 1)] M (QT M T l S) := by
  have hT := h.2.2.2
  have l2 := h.2.2.1
  refine Ct.of (by decide +kernel) (k := 1) (ls0 := [some (.ref (ad G 10 0)), some (.ref (ad G 1 1)), none]) rfl rfl (fun _ _ => trivial) ?_
  intro P hR
  have L0 : ∀ (j n : Nat) (S' : Nat → Nat) (L' : Lx), n + j = 122 → isLx T l L' → wfS S' → n ≤ L'.2.1 + 1 → itL T l j n (iteM T l S' L') = (seaR T l S) → P 9 [some (.ref (ad G 10 0)), some (.ref (ad G 1 1)), some (.int (nI n))] [] (lcM (putSea M 1 S') T l L') := by
    intro j
    induction j with
    | zero =>
      intro n S' L' hij hL hwf' hn hs
      have hB := isLx_B hT hL
      have b2 := hB.2.1
      omega
    | succ j ih =>
      intro n S' L' hij hL hwf' hn hs
      have hB := isLx_B hT hL
      obtain ⟨b1, b2, b3, b4, b5, b6⟩ := id hB
      obtain ⟨j1, j2, j3, j4, j5⟩ := iteC_M hT hB hwf'
      have ok := iteM_ok hT hB hwf'
      obtain ⟨⟨o1, o2, o3, o4, o5, o6⟩, o7⟩ := ok
      have hLi : isLx T l (iteC T l S' L').2.2 := by rw [j2]; exact iteM_lx hT hL
      obtain ⟨k2, k0, k3⟩ := lx_k hLi
      have kl := kC_le T l (iteC T l S' L').2.2.2.1
      have hBi := isLx_B hT hLi
      obtain ⟨p1, p2, p3, p4, p5, p6⟩ := id hBi
      have hm1 : (-1 : Int32).toInt = -1 := by decide
      refine r_iload2 hR dX4_tell_9 ?_
      refine r_bipush hR (nI 120) (by decide) dX4_tell_10 ?_
      refine r_icmp_gt hR 79 dX4_tell_12 (by decide) (fun c12 => ?_) (fun c12 => ?_)
      · try simp (disch := omega) only [nI_ltI, nI_leI, nI_eq, bI_0, Decidable.not_not, lc_lt, lc_gt, lc_ge, lc_le, lc_eq, i64_toInt] at c12
        try simp (disch := omega) only [cv_lt, cv_le, cv_eq, nI_toInt, cv_0] at c12
        first
        | omega
        | refine r_iconst hR (-1) (by decide) dX4_tell_79 ?_
          refine r_aload0 hR dX4_tell_80 ?_
          refine r_get hR (by first | decide | assumption | (simp only [gcnt_4, gcnt_1, gcnt_2, gcnt_3, gcnt_12, gcnt_13, gcnt_16]; omega)) fl_X4_9 rfl rfl dX4_tell_81 ?_
          try simp only [lc_2, lc_3, lc_4]
          refine r_get hR (by first | decide | assumption | (simp only [gcnt_4, gcnt_1, gcnt_2, gcnt_3, gcnt_12, gcnt_13, gcnt_16]; omega)) fl_X4_24 rfl rfl dX4_tell_84 ?_
          try simp only [lc_2, lc_3, lc_4]
          refine r_isub hR dX4_tell_87 ?_
          refine r_iret hR dX4_tell_88 ?_
          have l22 : L'.1 = 22 := by
            by_cases z : L'.1 = 22
            · exact z
            · have := b6 z
              omega
          have eM : (iteM T l S' L') = (1, S', L') := iteM_x T l S' L' (by omega)
          have eR : (seaR T l S) = (n, (1, S', L')) := by rw [← hs, eM]; exact itL_no (fun z => absurd z.1 (by show ¬ (1 : Nat) = 0; decide))
          refine ⟨?_, S', L', rfl, hwf'.2.2.2.1, fun z => ?_⟩
          · rw [eR]
            exact congrArg (fun z => some (Value.int z)) (if_neg (fun z => absurd z.1 (by show ¬ (1 : Nat) = 0; decide))).symm
          · rw [eR] at z
            exact absurd z (by show ¬ (1 : Nat) = 0; decide)
      · try simp (disch := omega) only [nI_ltI, nI_leI, nI_eq, bI_0, Decidable.not_not, lc_lt, lc_gt, lc_ge, lc_le, lc_eq, i64_toInt] at c12
        try simp (disch := omega) only [cv_lt, cv_le, cv_eq, nI_toInt, cv_0] at c12
        first
        | omega
        | refine r_aload0 hR dX4_tell_15 ?_
          refine r_aload1 hR dX4_tell_16 ?_
          refine r_cv1v hR kv_X4_20 (by decide) (t_X4_tellItem (put_ct h) hL (putSea_P M 1 S') hwf') (by first | decide | assumption | (simp only [gcnt_4, gcnt_1, gcnt_2, gcnt_3, gcnt_12, gcnt_13, gcnt_16]; omega)) rfl rfl (Nat.le_of_ble_eq_true rfl) dX4_tell_17 ?_
          rw [lc_p2 M T l _ _ _ j4]
          refine r_if_ne hR 33 dX4_tell_20 (by decide) (fun c20 => ?_) (fun c20 => ?_)
          · try simp (disch := omega) only [nI_ltI, nI_leI, nI_eq, bI_0, Decidable.not_not, lc_lt, lc_gt, lc_ge, lc_le, lc_eq, i64_toInt] at c20
            try simp (disch := omega) only [cv_lt, cv_le, cv_eq, nI_toInt, cv_0] at c20
            first
            | omega
            | refine r_aload0 hR dX4_tell_33 ?_
              refine r_get hR (by first | decide | assumption | (simp only [gcnt_4, gcnt_1, gcnt_2, gcnt_3, gcnt_12, gcnt_13, gcnt_16]; omega)) fl_X4_9 rfl rfl dX4_tell_34 ?_
              try simp only [lc_2, lc_3, lc_4]
              refine r_get hR (by first | decide | assumption | (simp only [gcnt_4, gcnt_1, gcnt_2, gcnt_3, gcnt_12, gcnt_13, gcnt_16]; omega)) fl_X4_28 rfl rfl dX4_tell_37 ?_
              try simp only [lc_2, lc_3, lc_4]
              refine r_if_ne hR 45 dX4_tell_40 (by decide) (fun c40 => ?_) (fun c40 => ?_)
              · try simp (disch := omega) only [nI_ltI, nI_leI, nI_eq, bI_0, Decidable.not_not, lc_lt, lc_gt, lc_ge, lc_le, lc_eq, i64_toInt] at c40
                try simp (disch := omega) only [cv_lt, cv_le, cv_eq, nI_toInt, cv_0] at c40
                first
                | omega
                | refine r_aload0 hR dX4_tell_45 ?_
                  refine r_get hR (by first | decide | assumption | (simp only [gcnt_4, gcnt_1, gcnt_2, gcnt_3, gcnt_12, gcnt_13, gcnt_16]; omega)) fl_X4_9 rfl rfl dX4_tell_46 ?_
                  try simp only [lc_2, lc_3, lc_4]
                  refine r_get hR (by first | decide | assumption | (simp only [gcnt_4, gcnt_1, gcnt_2, gcnt_3, gcnt_12, gcnt_13, gcnt_16]; omega)) fl_X4_28 rfl rfl dX4_tell_49 ?_
                  try simp only [lc_2, lc_3, lc_4]
                  refine r_iconst hR (nI 3) (by decide) dX4_tell_52 ?_
                  refine r_icmp_eq hR 66 dX4_tell_53 (by decide) (fun c53 => ?_) (fun c53 => ?_)
                  · try simp (disch := omega) only [nI_ltI, nI_leI, nI_eq, bI_0, Decidable.not_not, lc_lt, lc_gt, lc_ge, lc_le, lc_eq, i64_toInt] at c53
                    try simp (disch := omega) only [cv_lt, cv_le, cv_eq, nI_toInt, cv_0] at c53
                    first
                    | omega
                    | refine r_aload0 hR dX4_tell_66 ?_
                      refine r_get hR (by first | decide | assumption | (simp only [gcnt_4, gcnt_1, gcnt_2, gcnt_3, gcnt_12, gcnt_13, gcnt_16]; omega)) fl_X4_9 rfl rfl dX4_tell_67 ?_
                      try simp only [lc_2, lc_3, lc_4]
                      refine r_cv0u hR kv_X4_31 (by decide) (t_X3_nextToken (lc_ct (put_ct h)) (lc_4 _ _ _ _) p3) (by first | decide | assumption | (simp only [gcnt_4, gcnt_1, gcnt_2, gcnt_3, gcnt_12, gcnt_13, gcnt_16]; omega)) rfl rfl (Nat.le_of_ble_eq_true rfl) dX4_tell_70 ?_
                      rw [lc_lc]
                      refine r_iinc2 hR (nI 1) (by decide) (fun _ h => by first | (cases h; rfl) | exact absurd h (by simp)) dX4_tell_73 ?_
                      try rw [nI_add]
                      refine r_goto hR 9 dX4_tell_76 (by decide) ?_
                      have z1 := c20
                      rw [j1] at z1
                      have z2 := k3.mp c53
                      rw [j2] at z2
                      have f1 := o3 z1
                      have eS := j3 z1
                      rw [j2] at p3 p5 p6 ⊢
                      have f2 := p6 (by omega)
                      have hLn : isLx T l (lexN T l (iteM T l S' L').2.2.2.2.1) := isLx_n hT (by rw [← j2]; exact hLi)
                      have f3 := (lexN_B hT p3).2
                      rw [eS]
                      refine ih (n + 1) (iteM T l S' L').2.1 (lexN T l (iteM T l S' L').2.2.2.2.1) (by omega) hLn (o6 z1) (by omega) ?_
                      rw [← hs]
                      exact (itL_yes ⟨z1, z2⟩).symm
                  · try simp (disch := omega) only [nI_ltI, nI_leI, nI_eq, bI_0, Decidable.not_not, lc_lt, lc_gt, lc_ge, lc_le, lc_eq, i64_toInt] at c53
                    try simp (disch := omega) only [cv_lt, cv_le, cv_eq, nI_toInt, cv_0] at c53
                    first
                    | omega
                    | refine r_iconst hR (-1) (by decide) dX4_tell_56 ?_
                      refine r_aload0 hR dX4_tell_57 ?_
                      refine r_get hR (by first | decide | assumption | (simp only [gcnt_4, gcnt_1, gcnt_2, gcnt_3, gcnt_12, gcnt_13, gcnt_16]; omega)) fl_X4_9 rfl rfl dX4_tell_58 ?_
                      try simp only [lc_2, lc_3, lc_4]
                      refine r_get hR (by first | decide | assumption | (simp only [gcnt_4, gcnt_1, gcnt_2, gcnt_3, gcnt_12, gcnt_13, gcnt_16]; omega)) fl_X4_24 rfl rfl dX4_tell_61 ?_
                      try simp only [lc_2, lc_3, lc_4]
                      refine r_isub hR dX4_tell_64 ?_
                      refine r_iret hR dX4_tell_65 ?_
                      have eR : (seaR T l S) = (n, (iteM T l S' L')) := by rw [← hs]; exact itL_no (fun z => by
                        have z1 := z.2
                        rw [← j2] at z1
                        have z3 := k3.mpr z1
                        omega)
                      refine ⟨?_, (iteC T l S' L').2.1, (iteC T l S' L').2.2, rfl, j5, fun z => ?_⟩
                      · rw [eR]
                        rw [j2]
                        exact congrArg (fun z => some (Value.int z)) (if_neg (fun z => by
                          have z1 := z.2
                          rw [← j2] at z1
                          have z3 := k0.mpr z1
                          omega)).symm
                      · rw [eR] at z ⊢
                        exact j3 z
              · try simp (disch := omega) only [nI_ltI, nI_leI, nI_eq, bI_0, Decidable.not_not, lc_lt, lc_gt, lc_ge, lc_le, lc_eq, i64_toInt] at c40
                try simp (disch := omega) only [cv_lt, cv_le, cv_eq, nI_toInt, cv_0] at c40
                first
                | omega
                | refine r_iload2 hR dX4_tell_43 ?_
                  refine r_iret hR dX4_tell_44 ?_
                  have eR : (seaR T l S) = (n, (iteM T l S' L')) := by rw [← hs]; exact itL_no (fun z => by
                    have z1 := z.2
                    rw [← j2] at z1
                    have z3 := k0.mp c40
                    omega)
                  refine ⟨?_, (iteC T l S' L').2.1, (iteC T l S' L').2.2, rfl, j5, fun z => ?_⟩
                  · rw [eR]
                    exact congrArg (fun z => some (Value.int z)) (if_pos ⟨by rw [← j1]; exact c20, by rw [← j2]; exact k0.mp c40⟩).symm
                  · rw [eR] at z ⊢
                    exact j3 z
          · try simp (disch := omega) only [nI_ltI, nI_leI, nI_eq, bI_0, Decidable.not_not, lc_lt, lc_gt, lc_ge, lc_le, lc_eq, i64_toInt] at c20
            try simp (disch := omega) only [cv_lt, cv_le, cv_eq, nI_toInt, cv_0] at c20
            first
            | omega
            | refine r_iconst hR (-1) (by decide) dX4_tell_23 ?_
              refine r_aload0 hR dX4_tell_24 ?_
              refine r_get hR (by first | decide | assumption | (simp only [gcnt_4, gcnt_1, gcnt_2, gcnt_3, gcnt_12, gcnt_13, gcnt_16]; omega)) fl_X4_9 rfl rfl dX4_tell_25 ?_
              try simp only [lc_2, lc_3, lc_4]
              refine r_get hR (by first | decide | assumption | (simp only [gcnt_4, gcnt_1, gcnt_2, gcnt_3, gcnt_12, gcnt_13, gcnt_16]; omega)) fl_X4_24 rfl rfl dX4_tell_28 ?_
              try simp only [lc_2, lc_3, lc_4]
              refine r_isub hR dX4_tell_31 ?_
              refine r_iret hR dX4_tell_32 ?_
              have eR : (seaR T l S) = (n, (iteM T l S' L')) := by rw [← hs]; exact itL_no (fun z => by
                have z1 := z.1
                rw [← j1] at z1
                exact c20 z1)
              refine ⟨?_, (iteC T l S' L').2.1, (iteC T l S' L').2.2, rfl, j5, fun z => ?_⟩
              · rw [eR]
                rw [j2]
                exact congrArg (fun z => some (Value.int z)) (if_neg (fun z => by
                  have z1 := z.1
                  rw [← j1] at z1
                  exact c20 z1)).symm
              · rw [eR] at z ⊢
                exact j3 z
  refine r_aload0 hR dX4_tell_0 ?_
  refine r_get hR (by first | decide | assumption | (simp only [gcnt_4, gcnt_1, gcnt_2, gcnt_3, gcnt_12, gcnt_13, gcnt_16]; omega)) fl_X4_9 rfl rfl dX4_tell_1 ?_
  try simp only [lc_2, lc_3, lc_4]
  refine r_cv0u hR kv_X4_15 (by decide) (t_X3_begin h) (by first | decide | assumption | (simp only [gcnt_4, gcnt_1, gcnt_2, gcnt_3, gcnt_12, gcnt_13, gcnt_16]; omega)) rfl rfl (Nat.le_of_ble_eq_true rfl) dX4_tell_4 ?_
  refine r_iconst hR (nI 1) (by decide) dX4_tell_7 ?_
  refine r_istore2 hR (fun _ h => by first | (cases h; rfl) | exact absurd h (by simp)) dX4_tell_8 ?_
  have hL0 : isLx T l (lexN T l 0) := ⟨0, Nat.zero_le _, rfl⟩
  refine r_mem (M2 := lcM (putSea M 1 S) T l (lexN T l 0)) (by rw [putSn_id hS]) ?_
  exact L0 121 1 S (lexN T l 0) rfl hL0 hwf (Nat.le_add_left 1 _) rfl

theorem keepM_lc (M : gM) (T : Nat → Nat) (l : Nat) (L : Lx) : keepM M (lcM M T l L) := fun r hr => ⟨lc_row M T l L (by omega), rfl⟩
set_option maxHeartbeats 4000000 in
set_option maxRecDepth 100000 in
theorem t_X7_sea {G : gG} {M : gM} {A : gA} (hc : clsP M A) (hw : wfA A) : Ct G mX7_sea 9 [.ref (ad G 0 0)] M (Qc M (oSea A)) := by
  obtain ⟨hwf, hday, hwk, hk2, hl, hT, hsh⟩ := id hw
  obtain ⟨w0, w1, w2, w3, wr, wt⟩ := id hwf
  obtain ⟨s0, s2, s3, s4, sr, sth⟩ := id hc.1
  have hK8 : ak A = 1 → aK A 3 ≤ 8 := fun z => (hwk z).1.2.2.2.1
  refine Ct.of (by decide +kernel) (k := 1) (ls0 := [some (.ref (ad G 0 0)), none]) rfl rfl (fun _ _ => trivial) ?_
  intro P hR
  have hct : ctP M (aT A) (al A) := ⟨hc.2.2.2.1, hc.2.2.2.2.1, hl, hT⟩
  refine r_aload0 hR dX7_sea_0 ?_
  refine r_get hR (by first | decide | assumption | (simp only [gcnt_4, gcnt_1, gcnt_2, gcnt_3, gcnt_12, gcnt_13, gcnt_16]; omega)) fl_X7_16 rfl rfl dX7_sea_1 ?_
  try simp only [lc_2, lc_3, lc_4]
  refine r_aload0 hR dX7_sea_4 ?_
  refine r_get hR (by first | decide | assumption | (simp only [gcnt_4, gcnt_1, gcnt_2, gcnt_3, gcnt_12, gcnt_13, gcnt_16]; omega)) fl_X7_10 rfl rfl dX7_sea_5 ?_
  try simp only [lc_2, lc_3, lc_4]
  refine r_cv1u hR kv_X7_207 (by decide) (t_X1_become (by decide) (by decide) (by decide) hc.1 w3) (by first | decide | assumption | (simp only [gcnt_4, gcnt_1, gcnt_2, gcnt_3, gcnt_12, gcnt_13, gcnt_16]; omega)) rfl rfl (Nat.le_of_ble_eq_true rfl) dX7_sea_8 ?_
  refine r_aload0 hR dX7_sea_11 ?_
  refine r_get hR (by first | decide | assumption | (simp only [gcnt_4, gcnt_1, gcnt_2, gcnt_3, gcnt_12, gcnt_13, gcnt_16]; omega)) fl_X7_62 rfl rfl dX7_sea_12 ?_
  try simp only [lc_2, lc_3, lc_4]
  refine r_aload0 hR dX7_sea_15 ?_
  refine r_get hR (by first | decide | assumption | (simp only [gcnt_4, gcnt_1, gcnt_2, gcnt_3, gcnt_12, gcnt_13, gcnt_16]; omega)) fl_X7_16 rfl rfl dX7_sea_16 ?_
  try simp only [lc_2, lc_3, lc_4]
  refine g_callV hR (As := [.ref (ad G 1 1)]) (st := []) kv_X7_226 (by decide) rfl (t_X4_tell (put_ct (q := 1) (S := aS A) hct) (putSea_P M 1 (aS A)) hwf) (fun s0 H locs q1 q2 q3 => g_recv q1 q2 (by decide) rfl rfl) rfl (Nat.le_of_ble_eq_true rfl) dX7_sea_19 (fun v M' hq => ?_)
  obtain ⟨rfl, S2, L2, rfl, hS2, hSe⟩ := hq
  show P _ _ [.int (if (seaR (aT A) (al A) (aS A)).2.1 = 0 ∧ (seaR (aT A) (al A) (aS A)).2.2.2.1 = 22 then nI (seaR (aT A) (al A) (aS A)).1 else -1 - nI (seaR (aT A) (al A) (aS A)).2.2.2.2.1)] _
  refine r_istore1 hR (fun _ h => by first | (cases h; rfl) | exact absurd h (by simp)) dX7_sea_22 ?_
  have hseaOK := seaR_ok (T := aT A) (l := al A) hT hwf
  have hnb : (seaR (aT A) (al A) (aS A)).1 ≤ 1 + 121 := itL_n _ _ _ _ _
  by_cases q : (seaR (aT A) (al A) (aS A)).2.1 = 0 ∧ (seaR (aT A) (al A) (aS A)).2.2.2.1 = 22
  · rw [if_pos q]
    refine r_iload1 hR dX7_sea_23 ?_
    refine r_if_lt hR 38 dX7_sea_24 (by decide) (fun c24 => ?_) (fun c24 => ?_)
    · try simp (disch := omega) only [nI_ltI, nI_leI, nI_eq, bI_0, Decidable.not_not, lc_lt, lc_gt, lc_ge, lc_le, lc_eq, i64_toInt] at c24
      try simp (disch := omega) only [cv_lt, cv_le, cv_eq, nI_toInt, cv_0] at c24
      first
      | omega
      | refine r_aload0 hR dX7_sea_38 ?_
        refine r_get hR (by first | decide | assumption | (simp only [gcnt_4, gcnt_1, gcnt_2, gcnt_3, gcnt_12, gcnt_13, gcnt_16]; omega)) fl_X7_53 rfl rfl dX7_sea_39 ?_
        try simp only [lc_2, lc_3, lc_4]
        refine r_iconst hR (nI 0) (by decide) dX7_sea_42 ?_
        refine r_puti hR (by first | decide | assumption | (simp only [gcnt_4, gcnt_1, gcnt_2, gcnt_3, gcnt_12, gcnt_13, gcnt_16]; omega)) fp_X7_220 rfl rfl (Nat.le_of_ble_eq_true rfl) rfl rfl dX7_sea_43 ?_
        refine r_iload1 hR dX7_sea_46 ?_
        refine r_iret hR dX7_sea_47 ?_
        have e : oSea A = (nI (seaR (aT A) (al A) (aS A)).1, sT (sS A (seaR (aT A) (al A) (aS A)).2.2.1) (aT A) 0) := by
          unfold oSea
          exact if_pos q
        unfold Qc
        rw [e]
        rw [← hSe q.1]
        exact ⟨rfl, clsP_tape (clsP_sea (clsP_eqX ((eqX_put1 M (aS A) w3).tr (eqX_put1 _ S2 hS2)) w3 hK8 hc) hS2 hK8) (fun r a b => by rw [seti_row _ a, lc_row _ _ _ _ a]) rfl (by rw [seti_r, if_pos ⟨rfl, rfl, rfl⟩]) (fun j hj => absurd hj (by omega)), ((keepM_put _ _ _ _).tr ((keepM_put _ _ _ _).tr ((keepM_put _ _ _ _).tr ((keepM_lc _ _ _ _).tr (keepM_seti _ _ _ _ (by decide))))))⟩
    · try simp (disch := omega) only [nI_ltI, nI_leI, nI_eq, bI_0, Decidable.not_not, lc_lt, lc_gt, lc_ge, lc_le, lc_eq, i64_toInt] at c24
      try simp (disch := omega) only [cv_lt, cv_le, cv_eq, nI_toInt, cv_0] at c24
      first
      | omega
      | refine r_aload0 hR dX7_sea_27 ?_
        refine r_get hR (by first | decide | assumption | (simp only [gcnt_4, gcnt_1, gcnt_2, gcnt_3, gcnt_12, gcnt_13, gcnt_16]; omega)) fl_X7_10 rfl rfl dX7_sea_28 ?_
        try simp only [lc_2, lc_3, lc_4]
        refine r_aload0 hR dX7_sea_31 ?_
        refine r_get hR (by first | decide | assumption | (simp only [gcnt_4, gcnt_1, gcnt_2, gcnt_3, gcnt_12, gcnt_13, gcnt_16]; omega)) fl_X7_16 rfl rfl dX7_sea_32 ?_
        try simp only [lc_2, lc_3, lc_4]
        refine r_cv1u hR kv_X7_207 (by decide) (t_X1_become (by decide) (by decide) (by decide) (lc_sea (putSea_P _ 1 S2)) hS2) (by first | decide | assumption | (simp only [gcnt_4, gcnt_1, gcnt_2, gcnt_3, gcnt_12, gcnt_13, gcnt_16]; omega)) rfl rfl (Nat.le_of_ble_eq_true rfl) dX7_sea_35 ?_
        rw [lc_put]
        refine r_aload0 hR dX7_sea_38 ?_
        refine r_get hR (by first | decide | assumption | (simp only [gcnt_4, gcnt_1, gcnt_2, gcnt_3, gcnt_12, gcnt_13, gcnt_16]; omega)) fl_X7_53 rfl rfl dX7_sea_39 ?_
        try simp only [lc_2, lc_3, lc_4]
        refine r_iconst hR (nI 0) (by decide) dX7_sea_42 ?_
        refine r_puti hR (by first | decide | assumption | (simp only [gcnt_4, gcnt_1, gcnt_2, gcnt_3, gcnt_12, gcnt_13, gcnt_16]; omega)) fp_X7_220 rfl rfl (Nat.le_of_ble_eq_true rfl) rfl rfl dX7_sea_43 ?_
        refine r_iload1 hR dX7_sea_46 ?_
        refine r_iret hR dX7_sea_47 ?_
        have e : oSea A = (nI (seaR (aT A) (al A) (aS A)).1, sT (sS A (seaR (aT A) (al A) (aS A)).2.2.1) (aT A) 0) := by
          unfold oSea
          exact if_pos q
        unfold Qc
        rw [e]
        rw [← hSe q.1]
        exact ⟨rfl, clsP_tape (clsP_sea (clsP_eqX ((eqX_put1 M (aS A) w3).tr (eqX_put1 _ S2 hS2)) w3 hK8 hc) hS2 hK8) (fun r a b => by rw [seti_row _ a, lc_row _ _ _ _ a]) rfl (by rw [seti_r, if_pos ⟨rfl, rfl, rfl⟩]) (fun j hj => absurd hj (by omega)), ((keepM_put _ _ _ _).tr ((keepM_put _ _ _ _).tr ((keepM_put _ _ _ _).tr ((keepM_lc _ _ _ _).tr (keepM_seti _ _ _ _ (by decide))))))⟩
  · rw [if_neg q]
    have hp2 : (seaR (aT A) (al A) (aS A)).2.2.2.2.1 ≤ al A := hseaOK.1.2.1
    have hng := neg_p (seaR (aT A) (al A) (aS A)).2.2.2.2.1 (by omega)
    refine r_iload1 hR dX7_sea_23 ?_
    refine r_if_lt hR 38 dX7_sea_24 (by decide) (fun c24 => ?_) (fun c24 => ?_)
    · try simp (disch := omega) only [nI_ltI, nI_leI, nI_eq, bI_0, Decidable.not_not, lc_lt, lc_gt, lc_ge, lc_le, lc_eq, i64_toInt] at c24
      try simp (disch := omega) only [cv_lt, cv_le, cv_eq, nI_toInt, cv_0] at c24
      first
      | omega
      | refine r_aload0 hR dX7_sea_38 ?_
        refine r_get hR (by first | decide | assumption | (simp only [gcnt_4, gcnt_1, gcnt_2, gcnt_3, gcnt_12, gcnt_13, gcnt_16]; omega)) fl_X7_53 rfl rfl dX7_sea_39 ?_
        try simp only [lc_2, lc_3, lc_4]
        refine r_iconst hR (nI 0) (by decide) dX7_sea_42 ?_
        refine r_puti hR (by first | decide | assumption | (simp only [gcnt_4, gcnt_1, gcnt_2, gcnt_3, gcnt_12, gcnt_13, gcnt_16]; omega)) fp_X7_220 rfl rfl (Nat.le_of_ble_eq_true rfl) rfl rfl dX7_sea_43 ?_
        refine r_iload1 hR dX7_sea_46 ?_
        refine r_iret hR dX7_sea_47 ?_
        have e : oSea A = (-1 - nI (seaR (aT A) (al A) (aS A)).2.2.2.2.1, sT A (aT A) 0) := by
          unfold oSea
          exact if_neg q
        unfold Qc
        rw [e]
        exact ⟨rfl, clsP_tape (clsP_eqX ((eqX_put1 M (aS A) w3).tr (eqX_put1 _ S2 hS2)) w3 hK8 hc) (fun r a b => by rw [seti_row _ a, lc_row _ _ _ _ a]) rfl (by rw [seti_r, if_pos ⟨rfl, rfl, rfl⟩]) (fun j hj => absurd hj (by omega)), ((keepM_put _ _ _ _).tr ((keepM_put _ _ _ _).tr ((keepM_lc _ _ _ _).tr (keepM_seti _ _ _ _ (by decide)))))⟩
    · try simp (disch := omega) only [nI_ltI, nI_leI, nI_eq, bI_0, Decidable.not_not, lc_lt, lc_gt, lc_ge, lc_le, lc_eq, i64_toInt] at c24
      try simp (disch := omega) only [cv_lt, cv_le, cv_eq, nI_toInt, cv_0] at c24
      first
      | omega
      | omega

