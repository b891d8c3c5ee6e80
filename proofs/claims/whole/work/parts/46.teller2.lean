theorem lc_o (M : gM) (T : Nat → Nat) (l : Nat) (L : Lx) {r i k : Nat} (h : ¬ r = 8) : (lcM M T l L).1 r i k = M.1 r i k := by
  unfold lcM cM
  rw [seti_r, if_neg (by omega), seti_r, if_neg (by omega), seti_r, if_neg (by omega)]
theorem lc_row (M : gM) (T : Nat → Nat) (l : Nat) (L : Lx) {r : Nat} (h : ¬ r = 8) : (lcM M T l L).1 r = M.1 r := by
  funext i k
  exact lc_o M T l L h
theorem lc_sea {M : gM} {T : Nat → Nat} {l q : Nat} {L : Lx} {S : Nat → Nat} (h : seaP M q S) : seaP (lcM M T l L) q S := seaP_rows (fun r hr => lc_row M T l L (by omega)) h
theorem lc_put (M : gM) (T : Nat → Nat) (l q : Nat) (L : Lx) (S : Nat → Nat) : putSea (lcM M T l L) q S = lcM (putSea M q S) T l L := by
  unfold lcM cM
  refine gM_ext (fun r i k => ?_) rfl
  simp only [putSn_r, seti_r]
  (repeat' split) <;> first | rfl | omega
theorem put_ct {M : gM} {T : Nat → Nat} {l q : Nat} {S : Nat → Nat} (h : ctP M T l) : ctP (putSea M q S) T l := ⟨by rw [putSn_far M q S (by omega) (by omega) (by omega)]; exact h.1, fun j hj => by rw [putSn_far M q S (by omega) (by omega) (by omega)]; exact h.2.1 j hj, h.2.2⟩
set_option maxHeartbeats 4000000 in
set_option maxRecDepth 100000 in
theorem t_X4_tellForce {G : gG} {M : gM} {T : Nat → Nat} {l : Nat} {L : Lx} (h : ctP M T l) (hL : isLx T l L) {S : Nat → Nat} (hS : seaP M 1 S) (w2 : S 2 < 256) : Cf G mX4_tellForce 3 [.ref (ad G 10 0), .ref (ad G 1 1)] (lcM M T l L) (some (.int (bI (isNum L 9)))) (if isNum L 9 then lcM (putSea M 1 (va_up S 1 L.2.2.2)) T l (lexN T l L.2.2.1) else lcM M T l L) := by
  have hT := h.2.2.2
  have hB := isLx_B hT hL
  obtain ⟨b1, b2, b3, b4, b5, b6⟩ := id hB
  obtain ⟨k2, k0, k3⟩ := lx_k hL
  have kl := kC_le T l L.2.1
  have l2 := h.2.2.1
  refine Ct.of (by decide +kernel) (k := 1) (ls0 := [some (.ref (ad G 10 0)), some (.ref (ad G 1 1)), none]) rfl rfl (fun _ _ => trivial) ?_
  intro P hR
  have hm1 : (-1 : Int32).toInt = -1 := by decide
  have hvt := nI_toInt (n := L.2.2.2) (by omega)
  by_cases q : isNum L 9
  · have q2 := q.2
    rw [bI_t q, if_pos q] at hR
    refine r_aload0 hR dX4_tellForce_0 ?_
    refine r_bipush hR (nI 9) (by decide) dX4_tellForce_1 ?_
    refine r_cv1v hR kv_X4_72 (by decide) (t_X4_takenNumber h hL (by decide)) (by first | decide | assumption | (simp only [gcnt_4, gcnt_1, gcnt_2, gcnt_3, gcnt_12, gcnt_13, gcnt_16]; omega)) rfl rfl (Nat.le_of_ble_eq_true rfl) dX4_tellForce_3 ?_
    rw [if_pos q, if_pos q]
    refine r_istore2 hR (fun _ h => by first | (cases h; rfl) | exact absurd h (by simp)) dX4_tellForce_6 ?_
    refine r_iload2 hR dX4_tellForce_7 ?_
    refine r_iconst hR (-1) (by decide) dX4_tellForce_8 ?_
    refine r_icmp_ne hR 14 dX4_tellForce_9 (by decide) (fun c9 => ?_) (fun c9 => ?_)
    · try simp (disch := omega) only [nI_ltI, nI_leI, nI_eq, bI_0, Decidable.not_not, lc_lt, lc_gt, lc_ge, lc_le, lc_eq, i64_toInt] at c9
      try simp (disch := omega) only [cv_lt, cv_le, cv_eq, nI_toInt, cv_0] at c9
      first
      | omega
      | refine r_aload1 hR dX4_tellForce_14 ?_
        refine r_iload2 hR dX4_tellForce_15 ?_
        refine r_puti hR (by first | decide | assumption | (simp only [gcnt_4, gcnt_1, gcnt_2, gcnt_3, gcnt_12, gcnt_13, gcnt_16]; omega)) fp_X4_89 rfl rfl (Nat.le_of_ble_eq_true rfl) rfl rfl dX4_tellForce_16 ?_
        rw [sea_f (lc_sea hS), lc_put]
        refine r_iconst hR (nI 1) (by decide) dX4_tellForce_19 ?_
        refine r_zret hR dX4_tellForce_20 rfl ?_
        exact ⟨rfl, rfl⟩
    · try simp (disch := omega) only [nI_ltI, nI_leI, nI_eq, bI_0, Decidable.not_not, lc_lt, lc_gt, lc_ge, lc_le, lc_eq, i64_toInt] at c9
      try simp (disch := omega) only [cv_lt, cv_le, cv_eq, nI_toInt, cv_0] at c9
      first
      | omega
      | refine r_iconst hR (nI 0) (by decide) dX4_tellForce_12 ?_
        refine r_zret hR dX4_tellForce_13 rfl ?_
        omega
  · rw [bI_f q, if_neg q] at hR
    refine r_aload0 hR dX4_tellForce_0 ?_
    refine r_bipush hR (nI 9) (by decide) dX4_tellForce_1 ?_
    refine r_cv1v hR kv_X4_72 (by decide) (t_X4_takenNumber h hL (by decide)) (by first | decide | assumption | (simp only [gcnt_4, gcnt_1, gcnt_2, gcnt_3, gcnt_12, gcnt_13, gcnt_16]; omega)) rfl rfl (Nat.le_of_ble_eq_true rfl) dX4_tellForce_3 ?_
    rw [if_neg q, if_neg q]
    refine r_istore2 hR (fun _ h => by first | (cases h; rfl) | exact absurd h (by simp)) dX4_tellForce_6 ?_
    refine r_iload2 hR dX4_tellForce_7 ?_
    refine r_iconst hR (-1) (by decide) dX4_tellForce_8 ?_
    refine r_icmp_ne hR 14 dX4_tellForce_9 (by decide) (fun c9 => absurd c9 (fun q => q rfl)) (fun c9 => ?_)
    refine r_iconst hR (nI 0) (by decide) dX4_tellForce_12 ?_
    refine r_zret hR dX4_tellForce_13 rfl ?_
    exact ⟨rfl, rfl⟩


set_option maxHeartbeats 4000000 in
set_option maxRecDepth 100000 in
theorem t_X4_tellHealth {G : gG} {M : gM} {T : Nat → Nat} {l : Nat} {L : Lx} (h : ctP M T l) (hL : isLx T l L) {S : Nat → Nat} (hS : seaP M 1 S) (w2 : S 2 < 256) {v : Nat} (hv : v < 2) : Cf G mX4_tellHealth 3 [.ref (ad G 10 0), .ref (ad G 1 1), .int (nI v)] (lcM M T l L) (some (.int (bI (isNum L 7)))) (if isNum L 7 then lcM (putSea M 1 (va_up S 2 (mkS (S 2) L.2.2.2 v))) T l (lexN T l L.2.2.1) else lcM M T l L) := by
  have hT := h.2.2.2
  have hB := isLx_B hT hL
  obtain ⟨b1, b2, b3, b4, b5, b6⟩ := id hB
  obtain ⟨k2, k0, k3⟩ := lx_k hL
  have kl := kC_le T l L.2.1
  have l2 := h.2.2.1
  refine Ct.of (by decide +kernel) (k := 1) (ls0 := [some (.ref (ad G 10 0)), some (.ref (ad G 1 1)), some (.int (nI v)), none]) rfl rfl (fun _ _ => trivial) ?_
  intro P hR
  have hm1 : (-1 : Int32).toInt = -1 := by decide
  have hvt := nI_toInt (n := L.2.2.2) (by omega)
  by_cases q : isNum L 7
  · have q2 := q.2
    rw [bI_t q, if_pos q] at hR
    refine r_aload0 hR dX4_tellHealth_0 ?_
    refine r_bipush hR (nI 7) (by decide) dX4_tellHealth_1 ?_
    refine r_cv1v hR kv_X4_72 (by decide) (t_X4_takenNumber h hL (by decide)) (by first | decide | assumption | (simp only [gcnt_4, gcnt_1, gcnt_2, gcnt_3, gcnt_12, gcnt_13, gcnt_16]; omega)) rfl rfl (Nat.le_of_ble_eq_true rfl) dX4_tellHealth_3 ?_
    rw [if_pos q, if_pos q]
    refine r_istore3 hR (fun _ h => by first | (cases h; rfl) | exact absurd h (by simp)) dX4_tellHealth_6 ?_
    refine r_iload3 hR dX4_tellHealth_7 ?_
    refine r_iconst hR (-1) (by decide) dX4_tellHealth_8 ?_
    refine r_icmp_ne hR 14 dX4_tellHealth_9 (by decide) (fun c9 => ?_) (fun c9 => ?_)
    · try simp (disch := omega) only [nI_ltI, nI_leI, nI_eq, bI_0, Decidable.not_not, lc_lt, lc_gt, lc_ge, lc_le, lc_eq, i64_toInt] at c9
      try simp (disch := omega) only [cv_lt, cv_le, cv_eq, nI_toInt, cv_0] at c9
      first
      | omega
      | refine r_aload1 hR dX4_tellHealth_14 ?_
        refine r_iload3 hR dX4_tellHealth_15 ?_
        refine r_iload2 hR dX4_tellHealth_16 ?_
        refine r_cv2u hR kv_X4_85 (by decide) (t_X1_makeSick (by decide) (lc_sea hS) w2 (by omega) hv) (by first | decide | assumption | (simp only [gcnt_4, gcnt_1, gcnt_2, gcnt_3, gcnt_12, gcnt_13, gcnt_16]; omega)) rfl rfl (Nat.le_of_ble_eq_true rfl) dX4_tellHealth_17 ?_
        rw [lc_put]
        refine r_iconst hR (nI 1) (by decide) dX4_tellHealth_20 ?_
        refine r_zret hR dX4_tellHealth_21 rfl ?_
        exact ⟨rfl, rfl⟩
    · try simp (disch := omega) only [nI_ltI, nI_leI, nI_eq, bI_0, Decidable.not_not, lc_lt, lc_gt, lc_ge, lc_le, lc_eq, i64_toInt] at c9
      try simp (disch := omega) only [cv_lt, cv_le, cv_eq, nI_toInt, cv_0] at c9
      first
      | omega
      | refine r_iconst hR (nI 0) (by decide) dX4_tellHealth_12 ?_
        refine r_zret hR dX4_tellHealth_13 rfl ?_
        omega
  · rw [bI_f q, if_neg q] at hR
    refine r_aload0 hR dX4_tellHealth_0 ?_
    refine r_bipush hR (nI 7) (by decide) dX4_tellHealth_1 ?_
    refine r_cv1v hR kv_X4_72 (by decide) (t_X4_takenNumber h hL (by decide)) (by first | decide | assumption | (simp only [gcnt_4, gcnt_1, gcnt_2, gcnt_3, gcnt_12, gcnt_13, gcnt_16]; omega)) rfl rfl (Nat.le_of_ble_eq_true rfl) dX4_tellHealth_3 ?_
    rw [if_neg q, if_neg q]
    refine r_istore3 hR (fun _ h => by first | (cases h; rfl) | exact absurd h (by simp)) dX4_tellHealth_6 ?_
    refine r_iload3 hR dX4_tellHealth_7 ?_
    refine r_iconst hR (-1) (by decide) dX4_tellHealth_8 ?_
    refine r_icmp_ne hR 14 dX4_tellHealth_9 (by decide) (fun c9 => absurd c9 (fun q => q rfl)) (fun c9 => ?_)
    refine r_iconst hR (nI 0) (by decide) dX4_tellHealth_12 ?_
    refine r_zret hR dX4_tellHealth_13 rfl ?_
    exact ⟨rfl, rfl⟩


