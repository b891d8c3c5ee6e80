/-! AN ITEM as the class tells it: as the reference's, but a fault leaves the sea as it was, or as far as the rota came -/
def iteC (T : Nat → Nat) (l : Nat) (S : Nat → Nat) (L : Lx) : Nat × (Nat → Nat) × Lx :=
  if L.1 ≤ 5 then thiM T l S L else if L.1 = 8 then rotC T l 7 0 S (lexN T l L.2.2.1) else if L.1 = 9 ∨ L.1 = 10 then illM T l S (if L.1 = 9 then 1 else 0) (lexN T l L.2.2.1) else if L.1 = 11 then (if isNum (lexN T l L.2.2.1) 9 then forM T l S (lexN T l L.2.2.1) else (1, S, lexN T l L.2.2.1)) else (1, S, L)
theorem iteC_M {T S : Nat → Nat} (hT : ∀ j, T j < 256) {l : Nat} {L : Lx} (h : lxB l L) (hS : wfS S) : (iteC T l S L).1 = (iteM T l S L).1 ∧ (iteC T l S L).2.2 = (iteM T l S L).2.2 ∧ ((iteM T l S L).1 = 0 → (iteC T l S L).2.1 = (iteM T l S L).2.1) ∧ S 3 ≤ (iteC T l S L).2.1 3 ∧ (iteC T l S L).2.1 3 ≤ 8 := by
  have ok := (iteM_ok hT h hS).1
  have w3 := hS.2.2.2.1
  obtain ⟨o1, o2, o3, o4, ⟨o5, o6⟩, o7⟩ := ok
  by_cases k5 : L.1 ≤ 5
  · have e : iteC T l S L = iteM T l S L := by unfold iteC iteM; rw [if_pos k5, if_pos k5]
    rw [e]
    exact ⟨rfl, rfl, fun _ => rfl, o5, o6⟩
  by_cases k8 : L.1 = 8
  · have e : iteC T l S L = rotC T l 7 0 S (lexN T l L.2.2.1) := by unfold iteC; rw [if_neg k5, if_pos k8]
    have e2 : iteM T l S L = rotM T l 7 0 S (lexN T l L.2.2.1) := by unfold iteM; rw [if_neg k5, if_pos k8]
    have r := rotC_M T l 7 0 S (lexN T l L.2.2.1)
    rw [e, e2]
    refine ⟨r.1, r.2.1, r.2.2.1, ?_, ?_⟩
    · rw [r.2.2.2]; exact Nat.le_refl _
    · rw [r.2.2.2]; exact w3
  by_cases k9 : L.1 = 9 ∨ L.1 = 10
  · have e : iteC T l S L = iteM T l S L := by unfold iteC iteM; rw [if_neg k5, if_neg k5, if_neg k8, if_neg k8, if_pos k9, if_pos k9]
    rw [e]
    exact ⟨rfl, rfl, fun _ => rfl, o5, o6⟩
  by_cases k11 : L.1 = 11
  · have e2 : iteM T l S L = forM T l S (lexN T l L.2.2.1) := by unfold iteM; rw [if_neg k5, if_neg k8, if_neg k9, if_pos k11]
    by_cases q : isNum (lexN T l L.2.2.1) 9
    · have e : iteC T l S L = iteM T l S L := by rw [e2]; unfold iteC; rw [if_neg k5, if_neg k8, if_neg k9, if_pos k11, if_pos q]
      rw [e]
      exact ⟨rfl, rfl, fun _ => rfl, o5, o6⟩
    · have e : iteC T l S L = (1, S, lexN T l L.2.2.1) := by unfold iteC; rw [if_neg k5, if_neg k8, if_neg k9, if_pos k11, if_neg q]
      have e3 : iteM T l S L = (1, va_up S 1 (lexN T l L.2.2.1).2.2.2, lexN T l L.2.2.1) := by rw [e2]; unfold forM; rw [if_neg q]
      rw [e, e3]
      exact ⟨rfl, rfl, fun z => absurd z (by show ¬ (1 : Nat) = 0; decide), Nat.le_refl _, w3⟩
  · have e : iteC T l S L = iteM T l S L := by unfold iteC iteM; rw [if_neg k5, if_neg k5, if_neg k8, if_neg k8, if_neg k9, if_neg k9, if_neg k11, if_neg k11]
    rw [e]
    exact ⟨rfl, rfl, fun _ => rfl, o5, o6⟩
theorem rotM_lx {T : Nat → Nat} (hT : ∀ j, T j < 256) {l : Nat} (n : Nat) : ∀ (d : Nat) (S : Nat → Nat) (L : Lx), isLx T l L → isLx T l (rotM T l n d S L).2.2 := by
  induction n with
  | zero => intro d S L h; exact h
  | succ n ih =>
    intro d S L h
    unfold rotM
    split
    · exact h
    · split
      · exact ih _ _ _ (isLx_n hT h)
      · exact h
theorem thiM_lx {T S : Nat → Nat} (hT : ∀ j, T j < 256) {l : Nat} {L : Lx} (h : isLx T l L) : isLx T l (thiM T l S L).2.2 := by
  have h1 := isLx_n hT h
  unfold thiM
  generalize lexN T l L.2.2.1 = L1 at h1 ⊢
  have h2 := isLx_n hT h1
  generalize lexN T l L1.2.2.1 = L2 at h2 ⊢
  by_cases h8 : S 3 = 8
  · rw [if_pos h8]; exact h
  rw [if_neg h8]
  by_cases nh6 : ¬ (L1.1 = 6)
  · rw [if_neg nh6]; exact h1
  rw [if_pos (Classical.not_not.mp nh6)]
  unfold thiC
  by_cases nq : ¬ (isNum L2 35)
  · rw [if_neg nq]; exact h2
  rw [if_pos (Classical.not_not.mp nq)]
  have h3 := isLx_n hT h2
  generalize lexN T l L2.2.2.1 = L3 at h3 ⊢
  unfold thiF
  by_cases nh7 : ¬ (L3.1 = 7)
  · rw [if_neg nh7]; exact h3
  rw [if_pos (Classical.not_not.mp nh7)]
  have h4 := isLx_n hT h3
  generalize lexN T l L3.2.2.1 = L4 at h4 ⊢
  by_cases nq7 : ¬ (isNum L4 7)
  · rw [if_neg nq7]; exact h4
  rw [if_pos (Classical.not_not.mp nq7)]
  exact isLx_n hT h4
theorem iteM_lx {T S : Nat → Nat} (hT : ∀ j, T j < 256) {l : Nat} {L : Lx} (h : isLx T l L) : isLx T l (iteM T l S L).2.2 := by
  by_cases k5 : L.1 ≤ 5
  · have e : iteM T l S L = thiM T l S L := by unfold iteM; rw [if_pos k5]
    rw [e]
    exact thiM_lx hT h
  have h1 := isLx_n hT h
  obtain ⟨L1, hL1⟩ : ∃ L1, lexN T l L.2.2.1 = L1 := ⟨_, rfl⟩
  rw [hL1] at h1
  have h2 := isLx_n hT h1
  by_cases k8 : L.1 = 8
  · have e : iteM T l S L = rotM T l 7 0 S L1 := by unfold iteM; rw [if_neg k5, if_pos k8, hL1]
    rw [e]
    exact rotM_lx hT _ _ _ _ h1
  by_cases k9 : L.1 = 9 ∨ L.1 = 10
  · have e : iteM T l S L = illM T l S (if L.1 = 9 then 1 else 0) L1 := by unfold iteM; rw [if_neg k5, if_neg k8, if_pos k9, hL1]
    rw [e]
    unfold illM
    by_cases q : isNum L1 7
    · rw [if_pos q]; exact h2
    · rw [if_neg q]; exact h1
  by_cases k11 : L.1 = 11
  · have e : iteM T l S L = forM T l S L1 := by unfold iteM; rw [if_neg k5, if_neg k8, if_neg k9, if_pos k11, hL1]
    rw [e]
    unfold forM
    by_cases q : isNum L1 9
    · rw [if_pos q]; exact h2
    · rw [if_neg q]; exact h1
  have e : iteM T l S L = (1, S, L) := by unfold iteM; rw [if_neg k5, if_neg k8, if_neg k9, if_neg k11]
  rw [e]
  exact h
theorem lc_p2 (M : gM) (T : Nat → Nat) (l : Nat) (S S' : Nat → Nat) (L : Lx) (h : S 3 ≤ S' 3) : lcM (putSea (putSea M 1 S) 1 S') T l L = lcM (putSea M 1 S') T l L := by
  rw [show putSea (putSea M 1 S) 1 S' = putSea M 1 S' from putSn_put M 1 S S' h]
theorem lc_st (M : gM) (T : Nat → Nat) (l : Nat) (L : Lx) (x : Int32) : lcM (seti M 8 0 4 x) T l L = lcM M T l L := by
  unfold lcM cM
  refine gM_ext (fun r i k => ?_) rfl
  simp only [seti_r]
  (repeat' split) <;> first | rfl | omega
theorem neg_p : ∀ p, p < 121 → (-1 - nI p : Int32).toInt = -1 - (p : Int) := by decide +kernel
set_option maxHeartbeats 4000000 in
set_option maxRecDepth 100000 in
theorem t_X4_tellItem {G : gG} {M : gM} {T : Nat → Nat} {l : Nat} {L : Lx} (h : ctP M T l) (hL : isLx T l L) {S : Nat → Nat} (hS : seaP M 1 S) (hwf : wfS S) : Cf G mX4_tellItem 7 [.ref (ad G 10 0), .ref (ad G 1 1)] (lcM M T l L) (some (.int (bI ((iteC T l S L).1 = 0)))) (lcM (putSea M 1 (iteC T l S L).2.1) T l (iteC T l S L).2.2) := by
  have hT := h.2.2.2
  have hB := isLx_B hT hL
  obtain ⟨b1, b2, b3, b4, b5, b6⟩ := id hB
  obtain ⟨k2, k0, k3⟩ := lx_k hL
  have kl := kC_le T l L.2.1
  have l2 := h.2.2.1
  refine Ct.of (by decide +kernel) (k := 1) (ls0 := [some (.ref (ad G 10 0)), some (.ref (ad G 1 1)), none]) rfl rfl (fun _ _ => trivial) ?_
  intro P hR
  obtain ⟨L1, e1⟩ : ∃ L1, L1 = lexN T l L.2.2.1 := ⟨_, rfl⟩
  have hL1 : isLx T l L1 := by rw [e1]; exact isLx_n hT hL
  have w3 := hwf.2.2.2.1
  have w2 := hwf.2.2.1
  have hm1 : (-1 : Int32).toInt = -1 := by decide
  by_cases k5 : L.1 ≤ 5
  · skip
    have y := nI_toInt (n := L.1) (by omega)
    refine r_aload0 hR dX4_tellItem_0 ?_
    refine r_cv0v hR kv_X4_34 (by decide) (t_X4_kindNamed h hL) (by first | decide | assumption | (simp only [gcnt_4, gcnt_1, gcnt_2, gcnt_3, gcnt_12, gcnt_13, gcnt_16]; omega)) rfl rfl (Nat.le_of_ble_eq_true rfl) dX4_tellItem_1 ?_
    rw [if_pos k5]
    refine r_istore2 hR (fun _ h => by first | (cases h; rfl) | exact absurd h (by simp)) dX4_tellItem_4 ?_
    refine r_iload2 hR dX4_tellItem_5 ?_
    refine r_iconst hR (-1) (by decide) dX4_tellItem_6 ?_
    refine r_icmp_eq hR 17 dX4_tellItem_7 (by decide) (fun c7 => ?_) (fun c7 => ?_)
    · try simp (disch := omega) only [nI_ltI, nI_leI, nI_eq, bI_0, Decidable.not_not, lc_lt, lc_gt, lc_ge, lc_le, lc_eq, i64_toInt] at c7
      try simp (disch := omega) only [cv_lt, cv_le, cv_eq, nI_toInt, cv_0] at c7
      first
      | omega
      | omega
    · try simp (disch := omega) only [nI_ltI, nI_leI, nI_eq, bI_0, Decidable.not_not, lc_lt, lc_gt, lc_ge, lc_le, lc_eq, i64_toInt] at c7
      try simp (disch := omega) only [cv_lt, cv_le, cv_eq, nI_toInt, cv_0] at c7
      first
      | omega
      | refine r_aload0 hR dX4_tellItem_10 ?_
        refine r_aload1 hR dX4_tellItem_11 ?_
        refine r_iload2 hR dX4_tellItem_12 ?_
        refine r_cv2v hR kv_X4_38 (by decide) (t_X4_tellThing h hL hS hwf k5) (by first | decide | assumption | (simp only [gcnt_4, gcnt_1, gcnt_2, gcnt_3, gcnt_12, gcnt_13, gcnt_16]; omega)) rfl rfl (Nat.le_of_ble_eq_true rfl) dX4_tellItem_13 ?_
        refine r_zret hR dX4_tellItem_16 bI_n ?_
        have es : (iteC T l S L) = thiM T l S L := by
          unfold iteC
          rw [if_pos k5]
        rw [es]
        exact ⟨rfl, rfl⟩
  · skip
    refine r_aload0 hR dX4_tellItem_0 ?_
    refine r_cv0v hR kv_X4_34 (by decide) (t_X4_kindNamed h hL) (by first | decide | assumption | (simp only [gcnt_4, gcnt_1, gcnt_2, gcnt_3, gcnt_12, gcnt_13, gcnt_16]; omega)) rfl rfl (Nat.le_of_ble_eq_true rfl) dX4_tellItem_1 ?_
    rw [if_neg k5]
    refine r_istore2 hR (fun _ h => by first | (cases h; rfl) | exact absurd h (by simp)) dX4_tellItem_4 ?_
    refine r_iload2 hR dX4_tellItem_5 ?_
    refine r_iconst hR (-1) (by decide) dX4_tellItem_6 ?_
    refine r_icmp_eq hR 17 dX4_tellItem_7 (by decide) (fun c7 => ?_) (fun c7 => absurd rfl c7)
    refine r_aload0 hR dX4_tellItem_17 ?_
    refine r_ldcS hR 8 (by decide) (by decide) dX4_tellItem_18 ?_
    refine r_cv1v hR kv_X4_44 (by decide) (t_X4_takesWord h hL (by decide)) (by first | decide | assumption | (simp only [gcnt_4, gcnt_1, gcnt_2, gcnt_3, gcnt_12, gcnt_13, gcnt_16]; omega)) rfl rfl (Nat.le_of_ble_eq_true rfl) dX4_tellItem_20 ?_
    refine r_if_eq hR 32 dX4_tellItem_23 (by decide) (fun c23 => ?_) (fun c23 => ?_)
    · try simp (disch := omega) only [nI_ltI, nI_leI, nI_eq, bI_0, Decidable.not_not, lc_lt, lc_gt, lc_ge, lc_le, lc_eq, i64_toInt] at c23
      try simp (disch := omega) only [cv_lt, cv_le, cv_eq, nI_toInt, cv_0] at c23
      first
      | omega
      | rw [if_neg c23]
        refine r_aload0 hR dX4_tellItem_32 ?_
        refine r_ldcS hR 9 (by decide) (by decide) dX4_tellItem_33 ?_
        refine r_cv1v hR kv_X4_44 (by decide) (t_X4_takesWord h hL (by decide)) (by first | decide | assumption | (simp only [gcnt_4, gcnt_1, gcnt_2, gcnt_3, gcnt_12, gcnt_13, gcnt_16]; omega)) rfl rfl (Nat.le_of_ble_eq_true rfl) dX4_tellItem_35 ?_
        refine r_if_eq hR 48 dX4_tellItem_38 (by decide) (fun c38 => ?_) (fun c38 => ?_)
        · try simp (disch := omega) only [nI_ltI, nI_leI, nI_eq, bI_0, Decidable.not_not, lc_lt, lc_gt, lc_ge, lc_le, lc_eq, i64_toInt] at c38
          try simp (disch := omega) only [cv_lt, cv_le, cv_eq, nI_toInt, cv_0] at c38
          first
          | omega
          | rw [if_neg c38]
            refine r_aload0 hR dX4_tellItem_48 ?_
            refine r_ldcS hR 10 (by decide) (by decide) dX4_tellItem_49 ?_
            refine r_cv1v hR kv_X4_44 (by decide) (t_X4_takesWord h hL (by decide)) (by first | decide | assumption | (simp only [gcnt_4, gcnt_1, gcnt_2, gcnt_3, gcnt_12, gcnt_13, gcnt_16]; omega)) rfl rfl (Nat.le_of_ble_eq_true rfl) dX4_tellItem_51 ?_
            refine r_if_eq hR 64 dX4_tellItem_54 (by decide) (fun c54 => ?_) (fun c54 => ?_)
            · try simp (disch := omega) only [nI_ltI, nI_leI, nI_eq, bI_0, Decidable.not_not, lc_lt, lc_gt, lc_ge, lc_le, lc_eq, i64_toInt] at c54
              try simp (disch := omega) only [cv_lt, cv_le, cv_eq, nI_toInt, cv_0] at c54
              first
              | omega
              | rw [if_neg c54]
                refine r_aload0 hR dX4_tellItem_64 ?_
                refine r_ldcS hR 11 (by decide) (by decide) dX4_tellItem_65 ?_
                refine r_cv1v hR kv_X4_44 (by decide) (t_X4_takesWord h hL (by decide)) (by first | decide | assumption | (simp only [gcnt_4, gcnt_1, gcnt_2, gcnt_3, gcnt_12, gcnt_13, gcnt_16]; omega)) rfl rfl (Nat.le_of_ble_eq_true rfl) dX4_tellItem_67 ?_
                refine r_if_eq hR 85 dX4_tellItem_70 (by decide) (fun c70 => ?_) (fun c70 => ?_)
                · try simp (disch := omega) only [nI_ltI, nI_leI, nI_eq, bI_0, Decidable.not_not, lc_lt, lc_gt, lc_ge, lc_le, lc_eq, i64_toInt] at c70
                  try simp (disch := omega) only [cv_lt, cv_le, cv_eq, nI_toInt, cv_0] at c70
                  first
                  | omega
                  | rw [if_neg c70]
                    refine r_iconst hR (nI 0) (by decide) dX4_tellItem_85 ?_
                    refine r_zret hR dX4_tellItem_86 rfl ?_
                    have es : (iteC T l S L) = (1, S, L) := by
                      unfold iteC
                      rw [if_neg k5, if_neg c23, if_neg (by omega), if_neg c70]
                    rw [es]
                    refine ⟨by rw [bI_f (show ¬ (1 : Nat) = 0 by decide)], ?_⟩
                    show _ = lcM (putSea M 1 S) T l L
                    rw [putSn_id hS]
                · try simp (disch := omega) only [nI_ltI, nI_leI, nI_eq, bI_0, Decidable.not_not, lc_lt, lc_gt, lc_ge, lc_le, lc_eq, i64_toInt] at c70
                  try simp (disch := omega) only [cv_lt, cv_le, cv_eq, nI_toInt, cv_0] at c70
                  first
                  | omega
                  | rw [if_pos c70, ← e1]
                    by_cases q : isNum L1 9
                    · skip
                      refine r_aload0 hR dX4_tellItem_73 ?_
                      refine r_aload1 hR dX4_tellItem_74 ?_
                      refine r_cv1v hR kv_X4_61 (by decide) (t_X4_tellForce h hL1 hS w2) (by first | decide | assumption | (simp only [gcnt_4, gcnt_1, gcnt_2, gcnt_3, gcnt_12, gcnt_13, gcnt_16]; omega)) rfl rfl (Nat.le_of_ble_eq_true rfl) dX4_tellItem_75 ?_
                      rw [bI_t q, if_pos q]
                      refine r_if_eq hR 85 dX4_tellItem_78 (by decide) (fun c78 => absurd c78 (by decide)) (fun c78 => ?_)
                      refine r_iconst hR (nI 1) (by decide) dX4_tellItem_81 ?_
                      refine r_goto hR 86 dX4_tellItem_82 (by decide) ?_
                      refine r_zret hR dX4_tellItem_86 rfl ?_
                      have es : (iteC T l S L) = (0, va_up S 1 L1.2.2.2, lexN T l L1.2.2.1) := by
                        unfold iteC
                        rw [if_neg k5, if_neg c23, if_neg (by omega), if_pos c70, ← e1, if_pos q]
                        unfold forM
                        rw [if_pos q]
                      rw [es]
                      exact ⟨by rw [bI_t rfl], rfl⟩
                    · skip
                      refine r_aload0 hR dX4_tellItem_73 ?_
                      refine r_aload1 hR dX4_tellItem_74 ?_
                      refine r_cv1v hR kv_X4_61 (by decide) (t_X4_tellForce h hL1 hS w2) (by first | decide | assumption | (simp only [gcnt_4, gcnt_1, gcnt_2, gcnt_3, gcnt_12, gcnt_13, gcnt_16]; omega)) rfl rfl (Nat.le_of_ble_eq_true rfl) dX4_tellItem_75 ?_
                      rw [bI_f q, if_neg q]
                      refine r_if_eq hR 85 dX4_tellItem_78 (by decide) (fun c78 => ?_) (fun c78 => absurd rfl c78)
                      refine r_iconst hR (nI 0) (by decide) dX4_tellItem_85 ?_
                      refine r_zret hR dX4_tellItem_86 rfl ?_
                      have es : (iteC T l S L) = (1, S, L1) := by
                        unfold iteC
                        rw [if_neg k5, if_neg c23, if_neg (by omega), if_pos c70, ← e1, if_neg q]
                      rw [es]
                      refine ⟨by rw [bI_f (show ¬ (1 : Nat) = 0 by decide)], ?_⟩
                      show _ = lcM (putSea M 1 S) T l L1
                      rw [putSn_id hS]
            · try simp (disch := omega) only [nI_ltI, nI_leI, nI_eq, bI_0, Decidable.not_not, lc_lt, lc_gt, lc_ge, lc_le, lc_eq, i64_toInt] at c54
              try simp (disch := omega) only [cv_lt, cv_le, cv_eq, nI_toInt, cv_0] at c54
              first
              | omega
              | rw [if_pos c54, ← e1]
                by_cases q : isNum L1 7
                · skip
                  refine r_aload0 hR dX4_tellItem_57 ?_
                  refine r_aload1 hR dX4_tellItem_58 ?_
                  refine r_iconst hR (nI 0) (by decide) dX4_tellItem_59 ?_
                  refine r_cv2v hR kv_X4_53 (by decide) (t_X4_tellHealth h hL1 hS w2 (by decide)) (by first | decide | assumption | (simp only [gcnt_4, gcnt_1, gcnt_2, gcnt_3, gcnt_12, gcnt_13, gcnt_16]; omega)) rfl rfl (Nat.le_of_ble_eq_true rfl) dX4_tellItem_60 ?_
                  refine r_zret hR dX4_tellItem_63 bI_n ?_
                  have es : (iteC T l S L) = (0, va_up S 2 (mkS (S 2) L1.2.2.2 0), lexN T l L1.2.2.1) := by
                    unfold iteC
                    rw [if_neg k5, if_neg c23, if_pos (by omega), if_neg c38, ← e1]
                    unfold illM
                    rw [if_pos q]
                  rw [es]
                  exact ⟨by rw [bI_t q, bI_t rfl], by rw [if_pos q]⟩
                · skip
                  refine r_aload0 hR dX4_tellItem_57 ?_
                  refine r_aload1 hR dX4_tellItem_58 ?_
                  refine r_iconst hR (nI 0) (by decide) dX4_tellItem_59 ?_
                  refine r_cv2v hR kv_X4_53 (by decide) (t_X4_tellHealth h hL1 hS w2 (by decide)) (by first | decide | assumption | (simp only [gcnt_4, gcnt_1, gcnt_2, gcnt_3, gcnt_12, gcnt_13, gcnt_16]; omega)) rfl rfl (Nat.le_of_ble_eq_true rfl) dX4_tellItem_60 ?_
                  refine r_zret hR dX4_tellItem_63 bI_n ?_
                  have es : (iteC T l S L) = (1, S, L1) := by
                    unfold iteC
                    rw [if_neg k5, if_neg c23, if_pos (by omega), if_neg c38, ← e1]
                    unfold illM
                    rw [if_neg q]
                  rw [es]
                  refine ⟨by rw [bI_f q, bI_f (show ¬ (1 : Nat) = 0 by decide)], ?_⟩
                  rw [if_neg q]
                  show _ = lcM (putSea M 1 S) T l L1
                  rw [putSn_id hS]
        · try simp (disch := omega) only [nI_ltI, nI_leI, nI_eq, bI_0, Decidable.not_not, lc_lt, lc_gt, lc_ge, lc_le, lc_eq, i64_toInt] at c38
          try simp (disch := omega) only [cv_lt, cv_le, cv_eq, nI_toInt, cv_0] at c38
          first
          | omega
          | rw [if_pos c38, ← e1]
            by_cases q : isNum L1 7
            · skip
              refine r_aload0 hR dX4_tellItem_41 ?_
              refine r_aload1 hR dX4_tellItem_42 ?_
              refine r_iconst hR (nI 1) (by decide) dX4_tellItem_43 ?_
              refine r_cv2v hR kv_X4_53 (by decide) (t_X4_tellHealth h hL1 hS w2 (by decide)) (by first | decide | assumption | (simp only [gcnt_4, gcnt_1, gcnt_2, gcnt_3, gcnt_12, gcnt_13, gcnt_16]; omega)) rfl rfl (Nat.le_of_ble_eq_true rfl) dX4_tellItem_44 ?_
              refine r_zret hR dX4_tellItem_47 bI_n ?_
              have es : (iteC T l S L) = (0, va_up S 2 (mkS (S 2) L1.2.2.2 1), lexN T l L1.2.2.1) := by
                unfold iteC
                rw [if_neg k5, if_neg c23, if_pos (by omega), if_pos c38, ← e1]
                unfold illM
                rw [if_pos q]
              rw [es]
              exact ⟨by rw [bI_t q, bI_t rfl], by rw [if_pos q]⟩
            · skip
              refine r_aload0 hR dX4_tellItem_41 ?_
              refine r_aload1 hR dX4_tellItem_42 ?_
              refine r_iconst hR (nI 1) (by decide) dX4_tellItem_43 ?_
              refine r_cv2v hR kv_X4_53 (by decide) (t_X4_tellHealth h hL1 hS w2 (by decide)) (by first | decide | assumption | (simp only [gcnt_4, gcnt_1, gcnt_2, gcnt_3, gcnt_12, gcnt_13, gcnt_16]; omega)) rfl rfl (Nat.le_of_ble_eq_true rfl) dX4_tellItem_44 ?_
              refine r_zret hR dX4_tellItem_47 bI_n ?_
              have es : (iteC T l S L) = (1, S, L1) := by
                unfold iteC
                rw [if_neg k5, if_neg c23, if_pos (by omega), if_pos c38, ← e1]
                unfold illM
                rw [if_neg q]
              rw [es]
              refine ⟨by rw [bI_f q, bI_f (show ¬ (1 : Nat) = 0 by decide)], ?_⟩
              rw [if_neg q]
              show _ = lcM (putSea M 1 S) T l L1
              rw [putSn_id hS]
    · try simp (disch := omega) only [nI_ltI, nI_leI, nI_eq, bI_0, Decidable.not_not, lc_lt, lc_gt, lc_ge, lc_le, lc_eq, i64_toInt] at c23
      try simp (disch := omega) only [cv_lt, cv_le, cv_eq, nI_toInt, cv_0] at c23
      first
      | omega
      | rw [if_pos c23, ← e1]
        refine r_aload0 hR dX4_tellItem_26 ?_
        refine r_aload1 hR dX4_tellItem_27 ?_
        refine r_cv1v hR kv_X4_48 (by decide) (t_X4_tellRota h hL1 hS w2) (by first | decide | assumption | (simp only [gcnt_4, gcnt_1, gcnt_2, gcnt_3, gcnt_12, gcnt_13, gcnt_16]; omega)) rfl rfl (Nat.le_of_ble_eq_true rfl) dX4_tellItem_28 ?_
        refine r_zret hR dX4_tellItem_31 bI_n ?_
        have es : (iteC T l S L) = rotC T l 7 0 S L1 := by
          unfold iteC
          rw [if_neg k5, if_pos c23, ← e1]
        rw [es]
        exact ⟨rfl, rfl⟩


set_option maxHeartbeats 4000000 in
set_option maxRecDepth 100000 in
theorem t_X3_begin {G : gG} {M : gM} {T : Nat → Nat} {l : Nat} (h : ctP M T l) : Cf G mX3_begin 2 [.ref (ad G 8 0)] M none (lcM M T l (lexN T l 0)) := by
  refine Ct.of (by decide +kernel) (k := 0) (ls0 := [some (.ref (ad G 8 0))]) rfl rfl (fun _ _ => trivial) ?_
  intro P hR
  refine r_aload0 hR dX3_begin_0 ?_
  refine r_iconst hR (nI 0) (by decide) dX3_begin_1 ?_
  refine r_puti hR (by first | decide | assumption | (simp only [gcnt_4, gcnt_1, gcnt_2, gcnt_3, gcnt_12, gcnt_13, gcnt_16]; omega)) fp_X3_19 rfl rfl (Nat.le_of_ble_eq_true rfl) rfl rfl dX3_begin_2 ?_
  refine r_aload0 hR dX3_begin_5 ?_
  refine r_cv0u hR kv_X3_22 (by decide) (t_X3_nextToken (ct_s h (by decide)) (p := 0) (by rw [seti_r, if_pos ⟨rfl, rfl, rfl⟩]) (Nat.zero_le _)) (by first | decide | assumption | (simp only [gcnt_4, gcnt_1, gcnt_2, gcnt_3, gcnt_12, gcnt_13, gcnt_16]; omega)) rfl rfl (Nat.le_of_ble_eq_true rfl) dX3_begin_6 ?_
  rw [lc_st]
  refine r_vret hR dX3_begin_9 ?_
  exact ⟨rfl, rfl⟩

