set_option maxHeartbeats 4000000 in
set_option maxRecDepth 100000 in
theorem t_X8_perhaps {G : gG} {M : gM} {T : Nat → Nat} {l : Nat} {L : Lx} {b : Nat} (h : tapP M T l) (hL : lxB l L) (hb : b < 2) {w m : Nat} (hw : w < 30) (hm : m < 100) : Cf G mX8_perhaps 4 [.ref (ad G 15 0), .int (nI w), .int (nI 0), .int (nI m), .int (nI 0)] (rM M L b) (some (.int (nI (if b = 0 ∧ L.1 = w then (lexN T l L.2.2.1).2.2.2 else 0)))) (if b = 0 ∧ L.1 = w then rM M (if b = 0 ∧ isNum (lexN T l L.2.2.1) m then (lexN T l (lexN T l L.2.2.1).2.2.1) else (lexN T l L.2.2.1)) (if b = 0 ∧ isNum (lexN T l L.2.2.1) m then 0 else 1) else rM M L b) := by
  obtain ⟨b1, b2, b3, b4, b5, b6⟩ := id hL
  refine Ct.of (by decide +kernel) (k := 0) (ls0 := [some (.ref (ad G 15 0)), some (.int (nI w)), some (.int (nI 0)), some (.int (nI m)), some (.int (nI 0))]) rfl rfl (fun _ _ => trivial) ?_
  intro P hR
  have hL1 := (lexN_B h.2.2.2 b3).1
  by_cases hq : b = 0 ∧ L.1 = w
  · rw [if_pos hq, if_pos hq] at hR
    refine r_aload0 hR dX8_perhaps_0 ?_
    refine r_iload1 hR dX8_perhaps_1 ?_
    refine r_cv1v hR kv_X8_181 (by decide) (t_X8_passes h hL hb hw) (by first | decide | assumption | (simp only [gcnt_4, gcnt_1, gcnt_2, gcnt_3, gcnt_12, gcnt_13, gcnt_16]; omega)) rfl rfl (Nat.le_of_ble_eq_true rfl) dX8_perhaps_2 ?_
    rw [bI_t hq, if_pos hq]
    refine r_if_eq hR 17 dX8_perhaps_5 (by decide) (fun c5 => absurd c5 (by decide)) (fun c5 => ?_)
    refine r_aload0 hR dX8_perhaps_8 ?_
    refine r_iload2 hR dX8_perhaps_9 ?_
    refine r_iload3 hR dX8_perhaps_10 ?_
    refine r_cv2v hR kv_X8_184 (by decide) (t_X8_number h hL1 hb hm) (by first | decide | assumption | (simp only [gcnt_4, gcnt_1, gcnt_2, gcnt_3, gcnt_12, gcnt_13, gcnt_16]; omega)) rfl rfl (Nat.le_of_ble_eq_true rfl) dX8_perhaps_11 ?_
    refine r_goto hR 19 dX8_perhaps_14 (by decide) ?_
    refine r_iret hR dX8_perhaps_19 ?_
    exact ⟨rfl, rfl⟩
  · rw [if_neg hq, if_neg hq] at hR
    refine r_aload0 hR dX8_perhaps_0 ?_
    refine r_iload1 hR dX8_perhaps_1 ?_
    refine r_cv1v hR kv_X8_181 (by decide) (t_X8_passes h hL hb hw) (by first | decide | assumption | (simp only [gcnt_4, gcnt_1, gcnt_2, gcnt_3, gcnt_12, gcnt_13, gcnt_16]; omega)) rfl rfl (Nat.le_of_ble_eq_true rfl) dX8_perhaps_2 ?_
    rw [bI_f hq, if_neg hq]
    refine r_if_eq hR 17 dX8_perhaps_5 (by decide) (fun c5 => ?_) (fun c5 => absurd rfl c5)
    refine r_iload4 hR dX8_perhaps_17 ?_
    refine r_iret hR dX8_perhaps_19 ?_
    exact ⟨rfl, rfl⟩


set_option maxHeartbeats 4000000 in
set_option maxRecDepth 100000 in
theorem t_X8_thingItem {G : gG} {M : gM} {T S : Nat → Nat} {l : Nat} {L : Lx} (h : tapP M T l) (hL : lxB l L) (hr : rowP M 0 S) (w3 : S 3 ≤ 8) : Cf G mX8_thingItem 5 [.ref (ad G 15 0)] (rM M L 0) none (rM (pm M (thiM T l S L).2.1) (thiM T l S L).2.2 (thiM T l S L).1) := by
  have hT := h.2.2.2
  obtain ⟨b1, b2, b3, b4, b5, b6⟩ := id hL
  have hL1 := (lexN_B hT b3).1
  obtain ⟨a1, a2, a3, a4, a5, a6⟩ := id hL1
  refine Ct.of (by decide +kernel) (k := 3) (ls0 := [some (.ref (ad G 15 0)), none, none, none]) rfl rfl (fun _ _ => trivial) ?_
  intro P hR
  obtain ⟨L1, hL1e⟩ : ∃ L1, lexN T l L.2.2.1 = L1 := ⟨_, rfl⟩
  rw [hL1e] at hL1 a1 a2 a3 a4 a5 a6
  obtain ⟨L2, hL2e⟩ : ∃ L2, lexN T l L1.2.2.1 = L2 := ⟨_, rfl⟩
  have hL2 := (lexN_B hT a3).1
  rw [hL2e] at hL2
  obtain ⟨d1, d2, d3, d4, d5, d6⟩ := id hL2
  obtain ⟨L3, hL3e⟩ : ∃ L3, lexN T l L2.2.2.1 = L3 := ⟨_, rfl⟩
  have hL3 := (lexN_B hT d3).1
  rw [hL3e] at hL3
  obtain ⟨f1, f2, f3, f4, f5, f6⟩ := id hL3
  obtain ⟨L4, hL4e⟩ : ∃ L4, lexN T l L3.2.2.1 = L4 := ⟨_, rfl⟩
  have hL4 := (lexN_B hT f3).1
  rw [hL4e] at hL4
  by_cases h8 : S 3 = 8
  · have e : thiM T l S L = (1, S, L) := by unfold thiM; rw [if_pos h8]
    refine r_aload0 hR dX8_thingItem_0 ?_
    refine r_get hR (by first | decide | assumption | (simp only [gcnt_4, gcnt_1, gcnt_2, gcnt_3, gcnt_12, gcnt_13, gcnt_16]; omega)) fl_X8_168 rfl rfl dX8_thingItem_1 ?_
    try simp only [rM_9, rM_10, rM_11, rM_12, rM_13]
    refine r_istore1 hR (fun _ h => by first | (cases h; rfl) | exact absurd h (by simp)) dX8_thingItem_4 ?_
    refine r_aload0 hR dX8_thingItem_5 ?_
    refine r_aload0 hR dX8_thingItem_6 ?_
    refine r_get hR (by first | decide | assumption | (simp only [gcnt_4, gcnt_1, gcnt_2, gcnt_3, gcnt_12, gcnt_13, gcnt_16]; omega)) fl_X8_9 rfl rfl dX8_thingItem_7 ?_
    try simp only [rM_9, rM_10, rM_11, rM_12, rM_13]
    refine r_iconst hR (nI 3) (by decide) dX8_thingItem_10 ?_
    refine r_iald hR (by first | decide | assumption | (simp only [gcnt_4, gcnt_1, gcnt_2, gcnt_3, gcnt_12, gcnt_13, gcnt_16]; omega)) rfl rfl (by omega) (by decide) dX8_thingItem_11 ?_
    try simp only [rM_9, rM_10, rM_11, rM_12, rM_13]
    rw [rM_rowP hr 3 (by omega)]
    refine r_bipush hR (nI 8) (by decide) dX8_thingItem_12 ?_
    refine r_icmp_ne hR 21 dX8_thingItem_14 (by decide) (fun c14 => ?_) (fun c14 => ?_)
    · try simp (disch := omega) only [nI_ltI, nI_leI, nI_eq, bI_0, Decidable.not_not, lc_lt, lc_gt, lc_ge, lc_le, lc_eq, i64_toInt] at c14
      try simp (disch := omega) only [cv_lt, cv_le, cv_eq, nI_toInt, cv_0] at c14
      first
      | omega
      | refine r_iconst hR (nI 0) (by decide) dX8_thingItem_21 ?_
        refine r_puti hR (by first | decide | assumption | (simp only [gcnt_4, gcnt_1, gcnt_2, gcnt_3, gcnt_12, gcnt_13, gcnt_16]; omega)) fp_X8_174 rfl rfl (Nat.le_of_ble_eq_true rfl) rfl rfl dX8_thingItem_22 ?_
        rw [rM_bad]
        refine r_aload0 hR dX8_thingItem_25 ?_
        refine r_get hR (by first | decide | assumption | (simp only [gcnt_4, gcnt_1, gcnt_2, gcnt_3, gcnt_12, gcnt_13, gcnt_16]; omega)) fl_X8_174 rfl rfl dX8_thingItem_26 ?_
        try simp only [rM_9, rM_10, rM_11, rM_12, rM_13]
        refine r_if_eq hR 33 dX8_thingItem_29 (by decide) (fun c29 => absurd c29 (by decide)) (fun c29 => ?_)
        refine r_vret hR dX8_thingItem_32 ?_
        rw [e]
        exact ⟨rfl, by rw [pm_id hr]⟩
    · try simp (disch := omega) only [nI_ltI, nI_leI, nI_eq, bI_0, Decidable.not_not, lc_lt, lc_gt, lc_ge, lc_le, lc_eq, i64_toInt] at c14
      try simp (disch := omega) only [cv_lt, cv_le, cv_eq, nI_toInt, cv_0] at c14
      first
      | omega
      | refine r_iconst hR (nI 1) (by decide) dX8_thingItem_17 ?_
        refine r_goto hR 22 dX8_thingItem_18 (by decide) ?_
        refine r_puti hR (by first | decide | assumption | (simp only [gcnt_4, gcnt_1, gcnt_2, gcnt_3, gcnt_12, gcnt_13, gcnt_16]; omega)) fp_X8_174 rfl rfl (Nat.le_of_ble_eq_true rfl) rfl rfl dX8_thingItem_22 ?_
        rw [rM_bad]
        refine r_aload0 hR dX8_thingItem_25 ?_
        refine r_get hR (by first | decide | assumption | (simp only [gcnt_4, gcnt_1, gcnt_2, gcnt_3, gcnt_12, gcnt_13, gcnt_16]; omega)) fl_X8_174 rfl rfl dX8_thingItem_26 ?_
        try simp only [rM_9, rM_10, rM_11, rM_12, rM_13]
        refine r_if_eq hR 33 dX8_thingItem_29 (by decide) (fun c29 => absurd c29 (by decide)) (fun c29 => ?_)
        refine r_vret hR dX8_thingItem_32 ?_
        rw [e]
        exact ⟨rfl, by rw [pm_id hr]⟩
  by_cases h6 : L1.1 = 6
  · by_cases h35 : isNum L2 35
    · by_cases h7 : L3.1 = 7
      · by_cases hn7 : isNum L4 7
        · skip
          have e : thiM T l S L = (0, addS S L.1 L2.2.2.2 L4.2.2.2, (lexN T l L4.2.2.1)) := by
            unfold thiM
            rw [if_neg h8, hL1e, if_pos h6, hL2e]
            unfold thiC
            rw [if_pos h35, hL3e]
            unfold thiF
            rw [if_pos h7, hL4e, if_pos hn7]
          refine r_aload0 hR dX8_thingItem_0 ?_
          refine r_get hR (by first | decide | assumption | (simp only [gcnt_4, gcnt_1, gcnt_2, gcnt_3, gcnt_12, gcnt_13, gcnt_16]; omega)) fl_X8_168 rfl rfl dX8_thingItem_1 ?_
          try simp only [rM_9, rM_10, rM_11, rM_12, rM_13]
          refine r_istore1 hR (fun _ h => by first | (cases h; rfl) | exact absurd h (by simp)) dX8_thingItem_4 ?_
          refine r_aload0 hR dX8_thingItem_5 ?_
          refine r_aload0 hR dX8_thingItem_6 ?_
          refine r_get hR (by first | decide | assumption | (simp only [gcnt_4, gcnt_1, gcnt_2, gcnt_3, gcnt_12, gcnt_13, gcnt_16]; omega)) fl_X8_9 rfl rfl dX8_thingItem_7 ?_
          try simp only [rM_9, rM_10, rM_11, rM_12, rM_13]
          refine r_iconst hR (nI 3) (by decide) dX8_thingItem_10 ?_
          refine r_iald hR (by first | decide | assumption | (simp only [gcnt_4, gcnt_1, gcnt_2, gcnt_3, gcnt_12, gcnt_13, gcnt_16]; omega)) rfl rfl (by omega) (by decide) dX8_thingItem_11 ?_
          try simp only [rM_9, rM_10, rM_11, rM_12, rM_13]
          rw [rM_rowP hr 3 (by omega)]
          refine r_bipush hR (nI 8) (by decide) dX8_thingItem_12 ?_
          refine r_icmp_ne hR 21 dX8_thingItem_14 (by decide) (fun c14 => ?_) (fun c14 => ?_)
          · try simp (disch := omega) only [nI_ltI, nI_leI, nI_eq, bI_0, Decidable.not_not, lc_lt, lc_gt, lc_ge, lc_le, lc_eq, i64_toInt] at c14
            try simp (disch := omega) only [cv_lt, cv_le, cv_eq, nI_toInt, cv_0] at c14
            first
            | omega
            | refine r_iconst hR (nI 0) (by decide) dX8_thingItem_21 ?_
              refine r_puti hR (by first | decide | assumption | (simp only [gcnt_4, gcnt_1, gcnt_2, gcnt_3, gcnt_12, gcnt_13, gcnt_16]; omega)) fp_X8_174 rfl rfl (Nat.le_of_ble_eq_true rfl) rfl rfl dX8_thingItem_22 ?_
              rw [rM_bad]
              refine r_aload0 hR dX8_thingItem_25 ?_
              refine r_get hR (by first | decide | assumption | (simp only [gcnt_4, gcnt_1, gcnt_2, gcnt_3, gcnt_12, gcnt_13, gcnt_16]; omega)) fl_X8_174 rfl rfl dX8_thingItem_26 ?_
              try simp only [rM_9, rM_10, rM_11, rM_12, rM_13]
              refine r_if_eq hR 33 dX8_thingItem_29 (by decide) (fun c29 => ?_) (fun c29 => absurd rfl c29)
              refine r_aload0 hR dX8_thingItem_33 ?_
              refine r_cv0u hR kv_X8_178 (by decide) (t_X8_reads (rM_tap h) (rM_11 _ _ _) b3) (by first | decide | assumption | (simp only [gcnt_4, gcnt_1, gcnt_2, gcnt_3, gcnt_12, gcnt_13, gcnt_16]; omega)) rfl rfl (Nat.le_of_ble_eq_true rfl) dX8_thingItem_34 ?_
              rw [rM_lx, hL1e]
              refine r_aload0 hR dX8_thingItem_37 ?_
              refine r_aload0 hR dX8_thingItem_38 ?_
              refine r_bipush hR (nI 6) (by decide) dX8_thingItem_39 ?_
              refine r_cv1v hR kv_X8_181 (by decide) (t_X8_passes h hL1 (by decide) (by decide)) (by first | decide | assumption | (simp only [gcnt_4, gcnt_1, gcnt_2, gcnt_3, gcnt_12, gcnt_13, gcnt_16]; omega)) rfl rfl (Nat.le_of_ble_eq_true rfl) dX8_thingItem_41 ?_
              rw [bI_t (show 0 = 0 ∧ _ from ⟨rfl, h6⟩), if_pos (show 0 = 0 ∧ _ from ⟨rfl, h6⟩), hL2e]
              refine r_if_ne hR 51 dX8_thingItem_44 (by decide) (fun c44 => ?_) (fun c44 => absurd c44 (by decide))
              refine r_iconst hR (nI 0) (by decide) dX8_thingItem_51 ?_
              refine r_puti hR (by first | decide | assumption | (simp only [gcnt_4, gcnt_1, gcnt_2, gcnt_3, gcnt_12, gcnt_13, gcnt_16]; omega)) fp_X8_174 rfl rfl (Nat.le_of_ble_eq_true rfl) rfl rfl dX8_thingItem_52 ?_
              rw [rM_bad]
              refine r_aload0 hR dX8_thingItem_55 ?_
              refine r_iconst hR (nI 0) (by decide) dX8_thingItem_56 ?_
              refine r_bipush hR (nI 35) (by decide) dX8_thingItem_57 ?_
              refine r_cv2v hR kv_X8_184 (by decide) (t_X8_number h hL2 (by decide) (by decide)) (by first | decide | assumption | (simp only [gcnt_4, gcnt_1, gcnt_2, gcnt_3, gcnt_12, gcnt_13, gcnt_16]; omega)) rfl rfl (Nat.le_of_ble_eq_true rfl) dX8_thingItem_59 ?_
              rw [if_pos (show 0 = 0 ∧ _ from ⟨rfl, h35⟩), if_pos (show 0 = 0 ∧ _ from ⟨rfl, h35⟩), hL3e]
              refine r_istore2 hR (fun _ h => by first | (cases h; rfl) | exact absurd h (by simp)) dX8_thingItem_62 ?_
              refine r_aload0 hR dX8_thingItem_63 ?_
              refine r_bipush hR (nI 7) (by decide) dX8_thingItem_64 ?_
              refine r_iconst hR (nI 0) (by decide) dX8_thingItem_66 ?_
              refine r_bipush hR (nI 7) (by decide) dX8_thingItem_67 ?_
              refine r_iconst hR (nI 0) (by decide) dX8_thingItem_69 ?_
              refine r_cv4v hR kv_X8_187 (by decide) (t_X8_perhaps h hL3 (by decide) (by decide) (by decide)) (by first | decide | assumption | (simp only [gcnt_4, gcnt_1, gcnt_2, gcnt_3, gcnt_12, gcnt_13, gcnt_16]; omega)) rfl rfl (Nat.le_of_ble_eq_true rfl) dX8_thingItem_70 ?_
              rw [if_pos (show 0 = 0 ∧ _ from ⟨rfl, h7⟩), if_pos (show 0 = 0 ∧ _ from ⟨rfl, h7⟩), hL4e, if_pos (show 0 = 0 ∧ _ from ⟨rfl, hn7⟩), if_pos (show 0 = 0 ∧ _ from ⟨rfl, hn7⟩)]
              refine r_istore3 hR (fun _ h => by first | (cases h; rfl) | exact absurd h (by simp)) dX8_thingItem_73 ?_
              refine r_aload0 hR dX8_thingItem_74 ?_
              refine r_get hR (by first | decide | assumption | (simp only [gcnt_4, gcnt_1, gcnt_2, gcnt_3, gcnt_12, gcnt_13, gcnt_16]; omega)) fl_X8_174 rfl rfl dX8_thingItem_75 ?_
              try simp only [rM_9, rM_10, rM_11, rM_12, rM_13]
              refine r_if_ne hR 89 dX8_thingItem_78 (by decide) (fun c78 => absurd c78 (fun q => q rfl)) (fun c78 => ?_)
              refine r_aload0 hR dX8_thingItem_81 ?_
              refine r_iload1 hR dX8_thingItem_82 ?_
              refine r_iload2 hR dX8_thingItem_83 ?_
              refine r_iload3 hR dX8_thingItem_84 ?_
              refine r_cv3v hR kv_X8_94 (by decide) (t_X8_comesAt (rM_rowP hr) (by omega)) (by first | decide | assumption | (simp only [gcnt_4, gcnt_1, gcnt_2, gcnt_3, gcnt_12, gcnt_13, gcnt_16]; omega)) rfl rfl (Nat.le_of_ble_eq_true rfl) dX8_thingItem_85 ?_
              rw [show adM (rM M (lexN T l L4.2.2.1) 0) (S 3) L.1 L2.2.2.2 L4.2.2.2 = rM (pm M (addS S L.1 L2.2.2.2 L4.2.2.2)) (lexN T l L4.2.2.1) 0 from by rw [adM_pm (rM_rowP hr), rM_pm]]
              refine r_pop hR rfl dX8_thingItem_88 ?_
              refine r_vret hR dX8_thingItem_89 ?_
              rw [e]
              exact ⟨rfl, rfl⟩
          · try simp (disch := omega) only [nI_ltI, nI_leI, nI_eq, bI_0, Decidable.not_not, lc_lt, lc_gt, lc_ge, lc_le, lc_eq, i64_toInt] at c14
            try simp (disch := omega) only [cv_lt, cv_le, cv_eq, nI_toInt, cv_0] at c14
            first
            | omega
            | refine r_iconst hR (nI 1) (by decide) dX8_thingItem_17 ?_
              refine r_goto hR 22 dX8_thingItem_18 (by decide) ?_
              refine r_puti hR (by first | decide | assumption | (simp only [gcnt_4, gcnt_1, gcnt_2, gcnt_3, gcnt_12, gcnt_13, gcnt_16]; omega)) fp_X8_174 rfl rfl (Nat.le_of_ble_eq_true rfl) rfl rfl dX8_thingItem_22 ?_
              rw [rM_bad]
              refine r_aload0 hR dX8_thingItem_25 ?_
              refine r_get hR (by first | decide | assumption | (simp only [gcnt_4, gcnt_1, gcnt_2, gcnt_3, gcnt_12, gcnt_13, gcnt_16]; omega)) fl_X8_174 rfl rfl dX8_thingItem_26 ?_
              try simp only [rM_9, rM_10, rM_11, rM_12, rM_13]
              refine r_if_eq hR 33 dX8_thingItem_29 (by decide) (fun c29 => ?_) (fun c29 => absurd rfl c29)
              refine r_aload0 hR dX8_thingItem_33 ?_
              refine r_cv0u hR kv_X8_178 (by decide) (t_X8_reads (rM_tap h) (rM_11 _ _ _) b3) (by first | decide | assumption | (simp only [gcnt_4, gcnt_1, gcnt_2, gcnt_3, gcnt_12, gcnt_13, gcnt_16]; omega)) rfl rfl (Nat.le_of_ble_eq_true rfl) dX8_thingItem_34 ?_
              rw [rM_lx, hL1e]
              refine r_aload0 hR dX8_thingItem_37 ?_
              refine r_aload0 hR dX8_thingItem_38 ?_
              refine r_bipush hR (nI 6) (by decide) dX8_thingItem_39 ?_
              refine r_cv1v hR kv_X8_181 (by decide) (t_X8_passes h hL1 (by decide) (by decide)) (by first | decide | assumption | (simp only [gcnt_4, gcnt_1, gcnt_2, gcnt_3, gcnt_12, gcnt_13, gcnt_16]; omega)) rfl rfl (Nat.le_of_ble_eq_true rfl) dX8_thingItem_41 ?_
              rw [bI_t (show 0 = 0 ∧ _ from ⟨rfl, h6⟩), if_pos (show 0 = 0 ∧ _ from ⟨rfl, h6⟩), hL2e]
              refine r_if_ne hR 51 dX8_thingItem_44 (by decide) (fun c44 => ?_) (fun c44 => absurd c44 (by decide))
              refine r_iconst hR (nI 0) (by decide) dX8_thingItem_51 ?_
              refine r_puti hR (by first | decide | assumption | (simp only [gcnt_4, gcnt_1, gcnt_2, gcnt_3, gcnt_12, gcnt_13, gcnt_16]; omega)) fp_X8_174 rfl rfl (Nat.le_of_ble_eq_true rfl) rfl rfl dX8_thingItem_52 ?_
              rw [rM_bad]
              refine r_aload0 hR dX8_thingItem_55 ?_
              refine r_iconst hR (nI 0) (by decide) dX8_thingItem_56 ?_
              refine r_bipush hR (nI 35) (by decide) dX8_thingItem_57 ?_
              refine r_cv2v hR kv_X8_184 (by decide) (t_X8_number h hL2 (by decide) (by decide)) (by first | decide | assumption | (simp only [gcnt_4, gcnt_1, gcnt_2, gcnt_3, gcnt_12, gcnt_13, gcnt_16]; omega)) rfl rfl (Nat.le_of_ble_eq_true rfl) dX8_thingItem_59 ?_
              rw [if_pos (show 0 = 0 ∧ _ from ⟨rfl, h35⟩), if_pos (show 0 = 0 ∧ _ from ⟨rfl, h35⟩), hL3e]
              refine r_istore2 hR (fun _ h => by first | (cases h; rfl) | exact absurd h (by simp)) dX8_thingItem_62 ?_
              refine r_aload0 hR dX8_thingItem_63 ?_
              refine r_bipush hR (nI 7) (by decide) dX8_thingItem_64 ?_
              refine r_iconst hR (nI 0) (by decide) dX8_thingItem_66 ?_
              refine r_bipush hR (nI 7) (by decide) dX8_thingItem_67 ?_
              refine r_iconst hR (nI 0) (by decide) dX8_thingItem_69 ?_
              refine r_cv4v hR kv_X8_187 (by decide) (t_X8_perhaps h hL3 (by decide) (by decide) (by decide)) (by first | decide | assumption | (simp only [gcnt_4, gcnt_1, gcnt_2, gcnt_3, gcnt_12, gcnt_13, gcnt_16]; omega)) rfl rfl (Nat.le_of_ble_eq_true rfl) dX8_thingItem_70 ?_
              rw [if_pos (show 0 = 0 ∧ _ from ⟨rfl, h7⟩), if_pos (show 0 = 0 ∧ _ from ⟨rfl, h7⟩), hL4e, if_pos (show 0 = 0 ∧ _ from ⟨rfl, hn7⟩), if_pos (show 0 = 0 ∧ _ from ⟨rfl, hn7⟩)]
              refine r_istore3 hR (fun _ h => by first | (cases h; rfl) | exact absurd h (by simp)) dX8_thingItem_73 ?_
              refine r_aload0 hR dX8_thingItem_74 ?_
              refine r_get hR (by first | decide | assumption | (simp only [gcnt_4, gcnt_1, gcnt_2, gcnt_3, gcnt_12, gcnt_13, gcnt_16]; omega)) fl_X8_174 rfl rfl dX8_thingItem_75 ?_
              try simp only [rM_9, rM_10, rM_11, rM_12, rM_13]
              refine r_if_ne hR 89 dX8_thingItem_78 (by decide) (fun c78 => absurd c78 (fun q => q rfl)) (fun c78 => ?_)
              refine r_aload0 hR dX8_thingItem_81 ?_
              refine r_iload1 hR dX8_thingItem_82 ?_
              refine r_iload2 hR dX8_thingItem_83 ?_
              refine r_iload3 hR dX8_thingItem_84 ?_
              refine r_cv3v hR kv_X8_94 (by decide) (t_X8_comesAt (rM_rowP hr) (by omega)) (by first | decide | assumption | (simp only [gcnt_4, gcnt_1, gcnt_2, gcnt_3, gcnt_12, gcnt_13, gcnt_16]; omega)) rfl rfl (Nat.le_of_ble_eq_true rfl) dX8_thingItem_85 ?_
              rw [show adM (rM M (lexN T l L4.2.2.1) 0) (S 3) L.1 L2.2.2.2 L4.2.2.2 = rM (pm M (addS S L.1 L2.2.2.2 L4.2.2.2)) (lexN T l L4.2.2.1) 0 from by rw [adM_pm (rM_rowP hr), rM_pm]]
              refine r_pop hR rfl dX8_thingItem_88 ?_
              refine r_vret hR dX8_thingItem_89 ?_
              rw [e]
              exact ⟨rfl, rfl⟩
        · skip
          have e : thiM T l S L = (1, S, L4) := by
            unfold thiM
            rw [if_neg h8, hL1e, if_pos h6, hL2e]
            unfold thiC
            rw [if_pos h35, hL3e]
            unfold thiF
            rw [if_pos h7, hL4e, if_neg hn7]
          refine r_aload0 hR dX8_thingItem_0 ?_
          refine r_get hR (by first | decide | assumption | (simp only [gcnt_4, gcnt_1, gcnt_2, gcnt_3, gcnt_12, gcnt_13, gcnt_16]; omega)) fl_X8_168 rfl rfl dX8_thingItem_1 ?_
          try simp only [rM_9, rM_10, rM_11, rM_12, rM_13]
          refine r_istore1 hR (fun _ h => by first | (cases h; rfl) | exact absurd h (by simp)) dX8_thingItem_4 ?_
          refine r_aload0 hR dX8_thingItem_5 ?_
          refine r_aload0 hR dX8_thingItem_6 ?_
          refine r_get hR (by first | decide | assumption | (simp only [gcnt_4, gcnt_1, gcnt_2, gcnt_3, gcnt_12, gcnt_13, gcnt_16]; omega)) fl_X8_9 rfl rfl dX8_thingItem_7 ?_
          try simp only [rM_9, rM_10, rM_11, rM_12, rM_13]
          refine r_iconst hR (nI 3) (by decide) dX8_thingItem_10 ?_
          refine r_iald hR (by first | decide | assumption | (simp only [gcnt_4, gcnt_1, gcnt_2, gcnt_3, gcnt_12, gcnt_13, gcnt_16]; omega)) rfl rfl (by omega) (by decide) dX8_thingItem_11 ?_
          try simp only [rM_9, rM_10, rM_11, rM_12, rM_13]
          rw [rM_rowP hr 3 (by omega)]
          refine r_bipush hR (nI 8) (by decide) dX8_thingItem_12 ?_
          refine r_icmp_ne hR 21 dX8_thingItem_14 (by decide) (fun c14 => ?_) (fun c14 => ?_)
          · try simp (disch := omega) only [nI_ltI, nI_leI, nI_eq, bI_0, Decidable.not_not, lc_lt, lc_gt, lc_ge, lc_le, lc_eq, i64_toInt] at c14
            try simp (disch := omega) only [cv_lt, cv_le, cv_eq, nI_toInt, cv_0] at c14
            first
            | omega
            | refine r_iconst hR (nI 0) (by decide) dX8_thingItem_21 ?_
              refine r_puti hR (by first | decide | assumption | (simp only [gcnt_4, gcnt_1, gcnt_2, gcnt_3, gcnt_12, gcnt_13, gcnt_16]; omega)) fp_X8_174 rfl rfl (Nat.le_of_ble_eq_true rfl) rfl rfl dX8_thingItem_22 ?_
              rw [rM_bad]
              refine r_aload0 hR dX8_thingItem_25 ?_
              refine r_get hR (by first | decide | assumption | (simp only [gcnt_4, gcnt_1, gcnt_2, gcnt_3, gcnt_12, gcnt_13, gcnt_16]; omega)) fl_X8_174 rfl rfl dX8_thingItem_26 ?_
              try simp only [rM_9, rM_10, rM_11, rM_12, rM_13]
              refine r_if_eq hR 33 dX8_thingItem_29 (by decide) (fun c29 => ?_) (fun c29 => absurd rfl c29)
              refine r_aload0 hR dX8_thingItem_33 ?_
              refine r_cv0u hR kv_X8_178 (by decide) (t_X8_reads (rM_tap h) (rM_11 _ _ _) b3) (by first | decide | assumption | (simp only [gcnt_4, gcnt_1, gcnt_2, gcnt_3, gcnt_12, gcnt_13, gcnt_16]; omega)) rfl rfl (Nat.le_of_ble_eq_true rfl) dX8_thingItem_34 ?_
              rw [rM_lx, hL1e]
              refine r_aload0 hR dX8_thingItem_37 ?_
              refine r_aload0 hR dX8_thingItem_38 ?_
              refine r_bipush hR (nI 6) (by decide) dX8_thingItem_39 ?_
              refine r_cv1v hR kv_X8_181 (by decide) (t_X8_passes h hL1 (by decide) (by decide)) (by first | decide | assumption | (simp only [gcnt_4, gcnt_1, gcnt_2, gcnt_3, gcnt_12, gcnt_13, gcnt_16]; omega)) rfl rfl (Nat.le_of_ble_eq_true rfl) dX8_thingItem_41 ?_
              rw [bI_t (show 0 = 0 ∧ _ from ⟨rfl, h6⟩), if_pos (show 0 = 0 ∧ _ from ⟨rfl, h6⟩), hL2e]
              refine r_if_ne hR 51 dX8_thingItem_44 (by decide) (fun c44 => ?_) (fun c44 => absurd c44 (by decide))
              refine r_iconst hR (nI 0) (by decide) dX8_thingItem_51 ?_
              refine r_puti hR (by first | decide | assumption | (simp only [gcnt_4, gcnt_1, gcnt_2, gcnt_3, gcnt_12, gcnt_13, gcnt_16]; omega)) fp_X8_174 rfl rfl (Nat.le_of_ble_eq_true rfl) rfl rfl dX8_thingItem_52 ?_
              rw [rM_bad]
              refine r_aload0 hR dX8_thingItem_55 ?_
              refine r_iconst hR (nI 0) (by decide) dX8_thingItem_56 ?_
              refine r_bipush hR (nI 35) (by decide) dX8_thingItem_57 ?_
              refine r_cv2v hR kv_X8_184 (by decide) (t_X8_number h hL2 (by decide) (by decide)) (by first | decide | assumption | (simp only [gcnt_4, gcnt_1, gcnt_2, gcnt_3, gcnt_12, gcnt_13, gcnt_16]; omega)) rfl rfl (Nat.le_of_ble_eq_true rfl) dX8_thingItem_59 ?_
              rw [if_pos (show 0 = 0 ∧ _ from ⟨rfl, h35⟩), if_pos (show 0 = 0 ∧ _ from ⟨rfl, h35⟩), hL3e]
              refine r_istore2 hR (fun _ h => by first | (cases h; rfl) | exact absurd h (by simp)) dX8_thingItem_62 ?_
              refine r_aload0 hR dX8_thingItem_63 ?_
              refine r_bipush hR (nI 7) (by decide) dX8_thingItem_64 ?_
              refine r_iconst hR (nI 0) (by decide) dX8_thingItem_66 ?_
              refine r_bipush hR (nI 7) (by decide) dX8_thingItem_67 ?_
              refine r_iconst hR (nI 0) (by decide) dX8_thingItem_69 ?_
              refine r_cv4v hR kv_X8_187 (by decide) (t_X8_perhaps h hL3 (by decide) (by decide) (by decide)) (by first | decide | assumption | (simp only [gcnt_4, gcnt_1, gcnt_2, gcnt_3, gcnt_12, gcnt_13, gcnt_16]; omega)) rfl rfl (Nat.le_of_ble_eq_true rfl) dX8_thingItem_70 ?_
              rw [if_pos (show 0 = 0 ∧ _ from ⟨rfl, h7⟩), if_pos (show 0 = 0 ∧ _ from ⟨rfl, h7⟩), hL4e, if_neg (fun z => hn7 z.2), if_neg (fun z => hn7 z.2)]
              refine r_istore3 hR (fun _ h => by first | (cases h; rfl) | exact absurd h (by simp)) dX8_thingItem_73 ?_
              refine r_aload0 hR dX8_thingItem_74 ?_
              refine r_get hR (by first | decide | assumption | (simp only [gcnt_4, gcnt_1, gcnt_2, gcnt_3, gcnt_12, gcnt_13, gcnt_16]; omega)) fl_X8_174 rfl rfl dX8_thingItem_75 ?_
              try simp only [rM_9, rM_10, rM_11, rM_12, rM_13]
              refine r_if_ne hR 89 dX8_thingItem_78 (by decide) (fun c78 => ?_) (fun c78 => absurd c78 (by decide))
              refine r_vret hR dX8_thingItem_89 ?_
              rw [e]
              exact ⟨rfl, by rw [pm_id hr]⟩
          · try simp (disch := omega) only [nI_ltI, nI_leI, nI_eq, bI_0, Decidable.not_not, lc_lt, lc_gt, lc_ge, lc_le, lc_eq, i64_toInt] at c14
            try simp (disch := omega) only [cv_lt, cv_le, cv_eq, nI_toInt, cv_0] at c14
            first
            | omega
            | refine r_iconst hR (nI 1) (by decide) dX8_thingItem_17 ?_
              refine r_goto hR 22 dX8_thingItem_18 (by decide) ?_
              refine r_puti hR (by first | decide | assumption | (simp only [gcnt_4, gcnt_1, gcnt_2, gcnt_3, gcnt_12, gcnt_13, gcnt_16]; omega)) fp_X8_174 rfl rfl (Nat.le_of_ble_eq_true rfl) rfl rfl dX8_thingItem_22 ?_
              rw [rM_bad]
              refine r_aload0 hR dX8_thingItem_25 ?_
              refine r_get hR (by first | decide | assumption | (simp only [gcnt_4, gcnt_1, gcnt_2, gcnt_3, gcnt_12, gcnt_13, gcnt_16]; omega)) fl_X8_174 rfl rfl dX8_thingItem_26 ?_
              try simp only [rM_9, rM_10, rM_11, rM_12, rM_13]
              refine r_if_eq hR 33 dX8_thingItem_29 (by decide) (fun c29 => ?_) (fun c29 => absurd rfl c29)
              refine r_aload0 hR dX8_thingItem_33 ?_
              refine r_cv0u hR kv_X8_178 (by decide) (t_X8_reads (rM_tap h) (rM_11 _ _ _) b3) (by first | decide | assumption | (simp only [gcnt_4, gcnt_1, gcnt_2, gcnt_3, gcnt_12, gcnt_13, gcnt_16]; omega)) rfl rfl (Nat.le_of_ble_eq_true rfl) dX8_thingItem_34 ?_
              rw [rM_lx, hL1e]
              refine r_aload0 hR dX8_thingItem_37 ?_
              refine r_aload0 hR dX8_thingItem_38 ?_
              refine r_bipush hR (nI 6) (by decide) dX8_thingItem_39 ?_
              refine r_cv1v hR kv_X8_181 (by decide) (t_X8_passes h hL1 (by decide) (by decide)) (by first | decide | assumption | (simp only [gcnt_4, gcnt_1, gcnt_2, gcnt_3, gcnt_12, gcnt_13, gcnt_16]; omega)) rfl rfl (Nat.le_of_ble_eq_true rfl) dX8_thingItem_41 ?_
              rw [bI_t (show 0 = 0 ∧ _ from ⟨rfl, h6⟩), if_pos (show 0 = 0 ∧ _ from ⟨rfl, h6⟩), hL2e]
              refine r_if_ne hR 51 dX8_thingItem_44 (by decide) (fun c44 => ?_) (fun c44 => absurd c44 (by decide))
              refine r_iconst hR (nI 0) (by decide) dX8_thingItem_51 ?_
              refine r_puti hR (by first | decide | assumption | (simp only [gcnt_4, gcnt_1, gcnt_2, gcnt_3, gcnt_12, gcnt_13, gcnt_16]; omega)) fp_X8_174 rfl rfl (Nat.le_of_ble_eq_true rfl) rfl rfl dX8_thingItem_52 ?_
              rw [rM_bad]
              refine r_aload0 hR dX8_thingItem_55 ?_
              refine r_iconst hR (nI 0) (by decide) dX8_thingItem_56 ?_
              refine r_bipush hR (nI 35) (by decide) dX8_thingItem_57 ?_
              refine r_cv2v hR kv_X8_184 (by decide) (t_X8_number h hL2 (by decide) (by decide)) (by first | decide | assumption | (simp only [gcnt_4, gcnt_1, gcnt_2, gcnt_3, gcnt_12, gcnt_13, gcnt_16]; omega)) rfl rfl (Nat.le_of_ble_eq_true rfl) dX8_thingItem_59 ?_
              rw [if_pos (show 0 = 0 ∧ _ from ⟨rfl, h35⟩), if_pos (show 0 = 0 ∧ _ from ⟨rfl, h35⟩), hL3e]
              refine r_istore2 hR (fun _ h => by first | (cases h; rfl) | exact absurd h (by simp)) dX8_thingItem_62 ?_
              refine r_aload0 hR dX8_thingItem_63 ?_
              refine r_bipush hR (nI 7) (by decide) dX8_thingItem_64 ?_
              refine r_iconst hR (nI 0) (by decide) dX8_thingItem_66 ?_
              refine r_bipush hR (nI 7) (by decide) dX8_thingItem_67 ?_
              refine r_iconst hR (nI 0) (by decide) dX8_thingItem_69 ?_
              refine r_cv4v hR kv_X8_187 (by decide) (t_X8_perhaps h hL3 (by decide) (by decide) (by decide)) (by first | decide | assumption | (simp only [gcnt_4, gcnt_1, gcnt_2, gcnt_3, gcnt_12, gcnt_13, gcnt_16]; omega)) rfl rfl (Nat.le_of_ble_eq_true rfl) dX8_thingItem_70 ?_
              rw [if_pos (show 0 = 0 ∧ _ from ⟨rfl, h7⟩), if_pos (show 0 = 0 ∧ _ from ⟨rfl, h7⟩), hL4e, if_neg (fun z => hn7 z.2), if_neg (fun z => hn7 z.2)]
              refine r_istore3 hR (fun _ h => by first | (cases h; rfl) | exact absurd h (by simp)) dX8_thingItem_73 ?_
              refine r_aload0 hR dX8_thingItem_74 ?_
              refine r_get hR (by first | decide | assumption | (simp only [gcnt_4, gcnt_1, gcnt_2, gcnt_3, gcnt_12, gcnt_13, gcnt_16]; omega)) fl_X8_174 rfl rfl dX8_thingItem_75 ?_
              try simp only [rM_9, rM_10, rM_11, rM_12, rM_13]
              refine r_if_ne hR 89 dX8_thingItem_78 (by decide) (fun c78 => ?_) (fun c78 => absurd c78 (by decide))
              refine r_vret hR dX8_thingItem_89 ?_
              rw [e]
              exact ⟨rfl, by rw [pm_id hr]⟩
      · skip
        have e : thiM T l S L = (0, addS S L.1 L2.2.2.2 0, L3) := by
          unfold thiM
          rw [if_neg h8, hL1e, if_pos h6, hL2e]
          unfold thiC
          rw [if_pos h35, hL3e]
          unfold thiF
          rw [if_neg h7]
        refine r_aload0 hR dX8_thingItem_0 ?_
        refine r_get hR (by first | decide | assumption | (simp only [gcnt_4, gcnt_1, gcnt_2, gcnt_3, gcnt_12, gcnt_13, gcnt_16]; omega)) fl_X8_168 rfl rfl dX8_thingItem_1 ?_
        try simp only [rM_9, rM_10, rM_11, rM_12, rM_13]
        refine r_istore1 hR (fun _ h => by first | (cases h; rfl) | exact absurd h (by simp)) dX8_thingItem_4 ?_
        refine r_aload0 hR dX8_thingItem_5 ?_
        refine r_aload0 hR dX8_thingItem_6 ?_
        refine r_get hR (by first | decide | assumption | (simp only [gcnt_4, gcnt_1, gcnt_2, gcnt_3, gcnt_12, gcnt_13, gcnt_16]; omega)) fl_X8_9 rfl rfl dX8_thingItem_7 ?_
        try simp only [rM_9, rM_10, rM_11, rM_12, rM_13]
        refine r_iconst hR (nI 3) (by decide) dX8_thingItem_10 ?_
        refine r_iald hR (by first | decide | assumption | (simp only [gcnt_4, gcnt_1, gcnt_2, gcnt_3, gcnt_12, gcnt_13, gcnt_16]; omega)) rfl rfl (by omega) (by decide) dX8_thingItem_11 ?_
        try simp only [rM_9, rM_10, rM_11, rM_12, rM_13]
        rw [rM_rowP hr 3 (by omega)]
        refine r_bipush hR (nI 8) (by decide) dX8_thingItem_12 ?_
        refine r_icmp_ne hR 21 dX8_thingItem_14 (by decide) (fun c14 => ?_) (fun c14 => ?_)
        · try simp (disch := omega) only [nI_ltI, nI_leI, nI_eq, bI_0, Decidable.not_not, lc_lt, lc_gt, lc_ge, lc_le, lc_eq, i64_toInt] at c14
          try simp (disch := omega) only [cv_lt, cv_le, cv_eq, nI_toInt, cv_0] at c14
          first
          | omega
          | refine r_iconst hR (nI 0) (by decide) dX8_thingItem_21 ?_
            refine r_puti hR (by first | decide | assumption | (simp only [gcnt_4, gcnt_1, gcnt_2, gcnt_3, gcnt_12, gcnt_13, gcnt_16]; omega)) fp_X8_174 rfl rfl (Nat.le_of_ble_eq_true rfl) rfl rfl dX8_thingItem_22 ?_
            rw [rM_bad]
            refine r_aload0 hR dX8_thingItem_25 ?_
            refine r_get hR (by first | decide | assumption | (simp only [gcnt_4, gcnt_1, gcnt_2, gcnt_3, gcnt_12, gcnt_13, gcnt_16]; omega)) fl_X8_174 rfl rfl dX8_thingItem_26 ?_
            try simp only [rM_9, rM_10, rM_11, rM_12, rM_13]
            refine r_if_eq hR 33 dX8_thingItem_29 (by decide) (fun c29 => ?_) (fun c29 => absurd rfl c29)
            refine r_aload0 hR dX8_thingItem_33 ?_
            refine r_cv0u hR kv_X8_178 (by decide) (t_X8_reads (rM_tap h) (rM_11 _ _ _) b3) (by first | decide | assumption | (simp only [gcnt_4, gcnt_1, gcnt_2, gcnt_3, gcnt_12, gcnt_13, gcnt_16]; omega)) rfl rfl (Nat.le_of_ble_eq_true rfl) dX8_thingItem_34 ?_
            rw [rM_lx, hL1e]
            refine r_aload0 hR dX8_thingItem_37 ?_
            refine r_aload0 hR dX8_thingItem_38 ?_
            refine r_bipush hR (nI 6) (by decide) dX8_thingItem_39 ?_
            refine r_cv1v hR kv_X8_181 (by decide) (t_X8_passes h hL1 (by decide) (by decide)) (by first | decide | assumption | (simp only [gcnt_4, gcnt_1, gcnt_2, gcnt_3, gcnt_12, gcnt_13, gcnt_16]; omega)) rfl rfl (Nat.le_of_ble_eq_true rfl) dX8_thingItem_41 ?_
            rw [bI_t (show 0 = 0 ∧ _ from ⟨rfl, h6⟩), if_pos (show 0 = 0 ∧ _ from ⟨rfl, h6⟩), hL2e]
            refine r_if_ne hR 51 dX8_thingItem_44 (by decide) (fun c44 => ?_) (fun c44 => absurd c44 (by decide))
            refine r_iconst hR (nI 0) (by decide) dX8_thingItem_51 ?_
            refine r_puti hR (by first | decide | assumption | (simp only [gcnt_4, gcnt_1, gcnt_2, gcnt_3, gcnt_12, gcnt_13, gcnt_16]; omega)) fp_X8_174 rfl rfl (Nat.le_of_ble_eq_true rfl) rfl rfl dX8_thingItem_52 ?_
            rw [rM_bad]
            refine r_aload0 hR dX8_thingItem_55 ?_
            refine r_iconst hR (nI 0) (by decide) dX8_thingItem_56 ?_
            refine r_bipush hR (nI 35) (by decide) dX8_thingItem_57 ?_
            refine r_cv2v hR kv_X8_184 (by decide) (t_X8_number h hL2 (by decide) (by decide)) (by first | decide | assumption | (simp only [gcnt_4, gcnt_1, gcnt_2, gcnt_3, gcnt_12, gcnt_13, gcnt_16]; omega)) rfl rfl (Nat.le_of_ble_eq_true rfl) dX8_thingItem_59 ?_
            rw [if_pos (show 0 = 0 ∧ _ from ⟨rfl, h35⟩), if_pos (show 0 = 0 ∧ _ from ⟨rfl, h35⟩), hL3e]
            refine r_istore2 hR (fun _ h => by first | (cases h; rfl) | exact absurd h (by simp)) dX8_thingItem_62 ?_
            refine r_aload0 hR dX8_thingItem_63 ?_
            refine r_bipush hR (nI 7) (by decide) dX8_thingItem_64 ?_
            refine r_iconst hR (nI 0) (by decide) dX8_thingItem_66 ?_
            refine r_bipush hR (nI 7) (by decide) dX8_thingItem_67 ?_
            refine r_iconst hR (nI 0) (by decide) dX8_thingItem_69 ?_
            refine r_cv4v hR kv_X8_187 (by decide) (t_X8_perhaps h hL3 (by decide) (by decide) (by decide)) (by first | decide | assumption | (simp only [gcnt_4, gcnt_1, gcnt_2, gcnt_3, gcnt_12, gcnt_13, gcnt_16]; omega)) rfl rfl (Nat.le_of_ble_eq_true rfl) dX8_thingItem_70 ?_
            rw [if_neg (fun z => h7 z.2), if_neg (fun z => h7 z.2)]
            refine r_istore3 hR (fun _ h => by first | (cases h; rfl) | exact absurd h (by simp)) dX8_thingItem_73 ?_
            refine r_aload0 hR dX8_thingItem_74 ?_
            refine r_get hR (by first | decide | assumption | (simp only [gcnt_4, gcnt_1, gcnt_2, gcnt_3, gcnt_12, gcnt_13, gcnt_16]; omega)) fl_X8_174 rfl rfl dX8_thingItem_75 ?_
            try simp only [rM_9, rM_10, rM_11, rM_12, rM_13]
            refine r_if_ne hR 89 dX8_thingItem_78 (by decide) (fun c78 => absurd c78 (fun q => q rfl)) (fun c78 => ?_)
            refine r_aload0 hR dX8_thingItem_81 ?_
            refine r_iload1 hR dX8_thingItem_82 ?_
            refine r_iload2 hR dX8_thingItem_83 ?_
            refine r_iload3 hR dX8_thingItem_84 ?_
            refine r_cv3v hR kv_X8_94 (by decide) (t_X8_comesAt (rM_rowP hr) (by omega)) (by first | decide | assumption | (simp only [gcnt_4, gcnt_1, gcnt_2, gcnt_3, gcnt_12, gcnt_13, gcnt_16]; omega)) rfl rfl (Nat.le_of_ble_eq_true rfl) dX8_thingItem_85 ?_
            rw [show adM (rM M L3 0) (S 3) L.1 L2.2.2.2 0 = rM (pm M (addS S L.1 L2.2.2.2 0)) L3 0 from by rw [adM_pm (rM_rowP hr), rM_pm]]
            refine r_pop hR rfl dX8_thingItem_88 ?_
            refine r_vret hR dX8_thingItem_89 ?_
            rw [e]
            exact ⟨rfl, rfl⟩
        · try simp (disch := omega) only [nI_ltI, nI_leI, nI_eq, bI_0, Decidable.not_not, lc_lt, lc_gt, lc_ge, lc_le, lc_eq, i64_toInt] at c14
          try simp (disch := omega) only [cv_lt, cv_le, cv_eq, nI_toInt, cv_0] at c14
          first
          | omega
          | refine r_iconst hR (nI 1) (by decide) dX8_thingItem_17 ?_
            refine r_goto hR 22 dX8_thingItem_18 (by decide) ?_
            refine r_puti hR (by first | decide | assumption | (simp only [gcnt_4, gcnt_1, gcnt_2, gcnt_3, gcnt_12, gcnt_13, gcnt_16]; omega)) fp_X8_174 rfl rfl (Nat.le_of_ble_eq_true rfl) rfl rfl dX8_thingItem_22 ?_
            rw [rM_bad]
            refine r_aload0 hR dX8_thingItem_25 ?_
            refine r_get hR (by first | decide | assumption | (simp only [gcnt_4, gcnt_1, gcnt_2, gcnt_3, gcnt_12, gcnt_13, gcnt_16]; omega)) fl_X8_174 rfl rfl dX8_thingItem_26 ?_
            try simp only [rM_9, rM_10, rM_11, rM_12, rM_13]
            refine r_if_eq hR 33 dX8_thingItem_29 (by decide) (fun c29 => ?_) (fun c29 => absurd rfl c29)
            refine r_aload0 hR dX8_thingItem_33 ?_
            refine r_cv0u hR kv_X8_178 (by decide) (t_X8_reads (rM_tap h) (rM_11 _ _ _) b3) (by first | decide | assumption | (simp only [gcnt_4, gcnt_1, gcnt_2, gcnt_3, gcnt_12, gcnt_13, gcnt_16]; omega)) rfl rfl (Nat.le_of_ble_eq_true rfl) dX8_thingItem_34 ?_
            rw [rM_lx, hL1e]
            refine r_aload0 hR dX8_thingItem_37 ?_
            refine r_aload0 hR dX8_thingItem_38 ?_
            refine r_bipush hR (nI 6) (by decide) dX8_thingItem_39 ?_
            refine r_cv1v hR kv_X8_181 (by decide) (t_X8_passes h hL1 (by decide) (by decide)) (by first | decide | assumption | (simp only [gcnt_4, gcnt_1, gcnt_2, gcnt_3, gcnt_12, gcnt_13, gcnt_16]; omega)) rfl rfl (Nat.le_of_ble_eq_true rfl) dX8_thingItem_41 ?_
            rw [bI_t (show 0 = 0 ∧ _ from ⟨rfl, h6⟩), if_pos (show 0 = 0 ∧ _ from ⟨rfl, h6⟩), hL2e]
            refine r_if_ne hR 51 dX8_thingItem_44 (by decide) (fun c44 => ?_) (fun c44 => absurd c44 (by decide))
            refine r_iconst hR (nI 0) (by decide) dX8_thingItem_51 ?_
            refine r_puti hR (by first | decide | assumption | (simp only [gcnt_4, gcnt_1, gcnt_2, gcnt_3, gcnt_12, gcnt_13, gcnt_16]; omega)) fp_X8_174 rfl rfl (Nat.le_of_ble_eq_true rfl) rfl rfl dX8_thingItem_52 ?_
            rw [rM_bad]
            refine r_aload0 hR dX8_thingItem_55 ?_
            refine r_iconst hR (nI 0) (by decide) dX8_thingItem_56 ?_
            refine r_bipush hR (nI 35) (by decide) dX8_thingItem_57 ?_
            refine r_cv2v hR kv_X8_184 (by decide) (t_X8_number h hL2 (by decide) (by decide)) (by first | decide | assumption | (simp only [gcnt_4, gcnt_1, gcnt_2, gcnt_3, gcnt_12, gcnt_13, gcnt_16]; omega)) rfl rfl (Nat.le_of_ble_eq_true rfl) dX8_thingItem_59 ?_
            rw [if_pos (show 0 = 0 ∧ _ from ⟨rfl, h35⟩), if_pos (show 0 = 0 ∧ _ from ⟨rfl, h35⟩), hL3e]
            refine r_istore2 hR (fun _ h => by first | (cases h; rfl) | exact absurd h (by simp)) dX8_thingItem_62 ?_
            refine r_aload0 hR dX8_thingItem_63 ?_
            refine r_bipush hR (nI 7) (by decide) dX8_thingItem_64 ?_
            refine r_iconst hR (nI 0) (by decide) dX8_thingItem_66 ?_
            refine r_bipush hR (nI 7) (by decide) dX8_thingItem_67 ?_
            refine r_iconst hR (nI 0) (by decide) dX8_thingItem_69 ?_
            refine r_cv4v hR kv_X8_187 (by decide) (t_X8_perhaps h hL3 (by decide) (by decide) (by decide)) (by first | decide | assumption | (simp only [gcnt_4, gcnt_1, gcnt_2, gcnt_3, gcnt_12, gcnt_13, gcnt_16]; omega)) rfl rfl (Nat.le_of_ble_eq_true rfl) dX8_thingItem_70 ?_
            rw [if_neg (fun z => h7 z.2), if_neg (fun z => h7 z.2)]
            refine r_istore3 hR (fun _ h => by first | (cases h; rfl) | exact absurd h (by simp)) dX8_thingItem_73 ?_
            refine r_aload0 hR dX8_thingItem_74 ?_
            refine r_get hR (by first | decide | assumption | (simp only [gcnt_4, gcnt_1, gcnt_2, gcnt_3, gcnt_12, gcnt_13, gcnt_16]; omega)) fl_X8_174 rfl rfl dX8_thingItem_75 ?_
            try simp only [rM_9, rM_10, rM_11, rM_12, rM_13]
            refine r_if_ne hR 89 dX8_thingItem_78 (by decide) (fun c78 => absurd c78 (fun q => q rfl)) (fun c78 => ?_)
            refine r_aload0 hR dX8_thingItem_81 ?_
            refine r_iload1 hR dX8_thingItem_82 ?_
            refine r_iload2 hR dX8_thingItem_83 ?_
            refine r_iload3 hR dX8_thingItem_84 ?_
            refine r_cv3v hR kv_X8_94 (by decide) (t_X8_comesAt (rM_rowP hr) (by omega)) (by first | decide | assumption | (simp only [gcnt_4, gcnt_1, gcnt_2, gcnt_3, gcnt_12, gcnt_13, gcnt_16]; omega)) rfl rfl (Nat.le_of_ble_eq_true rfl) dX8_thingItem_85 ?_
            rw [show adM (rM M L3 0) (S 3) L.1 L2.2.2.2 0 = rM (pm M (addS S L.1 L2.2.2.2 0)) L3 0 from by rw [adM_pm (rM_rowP hr), rM_pm]]
            refine r_pop hR rfl dX8_thingItem_88 ?_
            refine r_vret hR dX8_thingItem_89 ?_
            rw [e]
            exact ⟨rfl, rfl⟩
    · skip
      have e : thiM T l S L = (1, S, L2) := by
        unfold thiM
        rw [if_neg h8, hL1e, if_pos h6, hL2e]
        unfold thiC
        rw [if_neg h35]
      refine r_aload0 hR dX8_thingItem_0 ?_
      refine r_get hR (by first | decide | assumption | (simp only [gcnt_4, gcnt_1, gcnt_2, gcnt_3, gcnt_12, gcnt_13, gcnt_16]; omega)) fl_X8_168 rfl rfl dX8_thingItem_1 ?_
      try simp only [rM_9, rM_10, rM_11, rM_12, rM_13]
      refine r_istore1 hR (fun _ h => by first | (cases h; rfl) | exact absurd h (by simp)) dX8_thingItem_4 ?_
      refine r_aload0 hR dX8_thingItem_5 ?_
      refine r_aload0 hR dX8_thingItem_6 ?_
      refine r_get hR (by first | decide | assumption | (simp only [gcnt_4, gcnt_1, gcnt_2, gcnt_3, gcnt_12, gcnt_13, gcnt_16]; omega)) fl_X8_9 rfl rfl dX8_thingItem_7 ?_
      try simp only [rM_9, rM_10, rM_11, rM_12, rM_13]
      refine r_iconst hR (nI 3) (by decide) dX8_thingItem_10 ?_
      refine r_iald hR (by first | decide | assumption | (simp only [gcnt_4, gcnt_1, gcnt_2, gcnt_3, gcnt_12, gcnt_13, gcnt_16]; omega)) rfl rfl (by omega) (by decide) dX8_thingItem_11 ?_
      try simp only [rM_9, rM_10, rM_11, rM_12, rM_13]
      rw [rM_rowP hr 3 (by omega)]
      refine r_bipush hR (nI 8) (by decide) dX8_thingItem_12 ?_
      refine r_icmp_ne hR 21 dX8_thingItem_14 (by decide) (fun c14 => ?_) (fun c14 => ?_)
      · try simp (disch := omega) only [nI_ltI, nI_leI, nI_eq, bI_0, Decidable.not_not, lc_lt, lc_gt, lc_ge, lc_le, lc_eq, i64_toInt] at c14
        try simp (disch := omega) only [cv_lt, cv_le, cv_eq, nI_toInt, cv_0] at c14
        first
        | omega
        | refine r_iconst hR (nI 0) (by decide) dX8_thingItem_21 ?_
          refine r_puti hR (by first | decide | assumption | (simp only [gcnt_4, gcnt_1, gcnt_2, gcnt_3, gcnt_12, gcnt_13, gcnt_16]; omega)) fp_X8_174 rfl rfl (Nat.le_of_ble_eq_true rfl) rfl rfl dX8_thingItem_22 ?_
          rw [rM_bad]
          refine r_aload0 hR dX8_thingItem_25 ?_
          refine r_get hR (by first | decide | assumption | (simp only [gcnt_4, gcnt_1, gcnt_2, gcnt_3, gcnt_12, gcnt_13, gcnt_16]; omega)) fl_X8_174 rfl rfl dX8_thingItem_26 ?_
          try simp only [rM_9, rM_10, rM_11, rM_12, rM_13]
          refine r_if_eq hR 33 dX8_thingItem_29 (by decide) (fun c29 => ?_) (fun c29 => absurd rfl c29)
          refine r_aload0 hR dX8_thingItem_33 ?_
          refine r_cv0u hR kv_X8_178 (by decide) (t_X8_reads (rM_tap h) (rM_11 _ _ _) b3) (by first | decide | assumption | (simp only [gcnt_4, gcnt_1, gcnt_2, gcnt_3, gcnt_12, gcnt_13, gcnt_16]; omega)) rfl rfl (Nat.le_of_ble_eq_true rfl) dX8_thingItem_34 ?_
          rw [rM_lx, hL1e]
          refine r_aload0 hR dX8_thingItem_37 ?_
          refine r_aload0 hR dX8_thingItem_38 ?_
          refine r_bipush hR (nI 6) (by decide) dX8_thingItem_39 ?_
          refine r_cv1v hR kv_X8_181 (by decide) (t_X8_passes h hL1 (by decide) (by decide)) (by first | decide | assumption | (simp only [gcnt_4, gcnt_1, gcnt_2, gcnt_3, gcnt_12, gcnt_13, gcnt_16]; omega)) rfl rfl (Nat.le_of_ble_eq_true rfl) dX8_thingItem_41 ?_
          rw [bI_t (show 0 = 0 ∧ _ from ⟨rfl, h6⟩), if_pos (show 0 = 0 ∧ _ from ⟨rfl, h6⟩), hL2e]
          refine r_if_ne hR 51 dX8_thingItem_44 (by decide) (fun c44 => ?_) (fun c44 => absurd c44 (by decide))
          refine r_iconst hR (nI 0) (by decide) dX8_thingItem_51 ?_
          refine r_puti hR (by first | decide | assumption | (simp only [gcnt_4, gcnt_1, gcnt_2, gcnt_3, gcnt_12, gcnt_13, gcnt_16]; omega)) fp_X8_174 rfl rfl (Nat.le_of_ble_eq_true rfl) rfl rfl dX8_thingItem_52 ?_
          rw [rM_bad]
          refine r_aload0 hR dX8_thingItem_55 ?_
          refine r_iconst hR (nI 0) (by decide) dX8_thingItem_56 ?_
          refine r_bipush hR (nI 35) (by decide) dX8_thingItem_57 ?_
          refine r_cv2v hR kv_X8_184 (by decide) (t_X8_number h hL2 (by decide) (by decide)) (by first | decide | assumption | (simp only [gcnt_4, gcnt_1, gcnt_2, gcnt_3, gcnt_12, gcnt_13, gcnt_16]; omega)) rfl rfl (Nat.le_of_ble_eq_true rfl) dX8_thingItem_59 ?_
          rw [if_neg (fun z => h35 z.2), if_neg (fun z => h35 z.2)]
          refine r_istore2 hR (fun _ h => by first | (cases h; rfl) | exact absurd h (by simp)) dX8_thingItem_62 ?_
          refine r_aload0 hR dX8_thingItem_63 ?_
          refine r_bipush hR (nI 7) (by decide) dX8_thingItem_64 ?_
          refine r_iconst hR (nI 0) (by decide) dX8_thingItem_66 ?_
          refine r_bipush hR (nI 7) (by decide) dX8_thingItem_67 ?_
          refine r_iconst hR (nI 0) (by decide) dX8_thingItem_69 ?_
          refine r_cv4v hR kv_X8_187 (by decide) (t_X8_perhaps h hL2 (by decide) (by decide) (by decide)) (by first | decide | assumption | (simp only [gcnt_4, gcnt_1, gcnt_2, gcnt_3, gcnt_12, gcnt_13, gcnt_16]; omega)) rfl rfl (Nat.le_of_ble_eq_true rfl) dX8_thingItem_70 ?_
          rw [if_neg (fun z => absurd z.1 (by decide)), if_neg (fun z => absurd z.1 (by decide))]
          refine r_istore3 hR (fun _ h => by first | (cases h; rfl) | exact absurd h (by simp)) dX8_thingItem_73 ?_
          refine r_aload0 hR dX8_thingItem_74 ?_
          refine r_get hR (by first | decide | assumption | (simp only [gcnt_4, gcnt_1, gcnt_2, gcnt_3, gcnt_12, gcnt_13, gcnt_16]; omega)) fl_X8_174 rfl rfl dX8_thingItem_75 ?_
          try simp only [rM_9, rM_10, rM_11, rM_12, rM_13]
          refine r_if_ne hR 89 dX8_thingItem_78 (by decide) (fun c78 => ?_) (fun c78 => absurd c78 (by decide))
          refine r_vret hR dX8_thingItem_89 ?_
          rw [e]
          exact ⟨rfl, by rw [pm_id hr]⟩
      · try simp (disch := omega) only [nI_ltI, nI_leI, nI_eq, bI_0, Decidable.not_not, lc_lt, lc_gt, lc_ge, lc_le, lc_eq, i64_toInt] at c14
        try simp (disch := omega) only [cv_lt, cv_le, cv_eq, nI_toInt, cv_0] at c14
        first
        | omega
        | refine r_iconst hR (nI 1) (by decide) dX8_thingItem_17 ?_
          refine r_goto hR 22 dX8_thingItem_18 (by decide) ?_
          refine r_puti hR (by first | decide | assumption | (simp only [gcnt_4, gcnt_1, gcnt_2, gcnt_3, gcnt_12, gcnt_13, gcnt_16]; omega)) fp_X8_174 rfl rfl (Nat.le_of_ble_eq_true rfl) rfl rfl dX8_thingItem_22 ?_
          rw [rM_bad]
          refine r_aload0 hR dX8_thingItem_25 ?_
          refine r_get hR (by first | decide | assumption | (simp only [gcnt_4, gcnt_1, gcnt_2, gcnt_3, gcnt_12, gcnt_13, gcnt_16]; omega)) fl_X8_174 rfl rfl dX8_thingItem_26 ?_
          try simp only [rM_9, rM_10, rM_11, rM_12, rM_13]
          refine r_if_eq hR 33 dX8_thingItem_29 (by decide) (fun c29 => ?_) (fun c29 => absurd rfl c29)
          refine r_aload0 hR dX8_thingItem_33 ?_
          refine r_cv0u hR kv_X8_178 (by decide) (t_X8_reads (rM_tap h) (rM_11 _ _ _) b3) (by first | decide | assumption | (simp only [gcnt_4, gcnt_1, gcnt_2, gcnt_3, gcnt_12, gcnt_13, gcnt_16]; omega)) rfl rfl (Nat.le_of_ble_eq_true rfl) dX8_thingItem_34 ?_
          rw [rM_lx, hL1e]
          refine r_aload0 hR dX8_thingItem_37 ?_
          refine r_aload0 hR dX8_thingItem_38 ?_
          refine r_bipush hR (nI 6) (by decide) dX8_thingItem_39 ?_
          refine r_cv1v hR kv_X8_181 (by decide) (t_X8_passes h hL1 (by decide) (by decide)) (by first | decide | assumption | (simp only [gcnt_4, gcnt_1, gcnt_2, gcnt_3, gcnt_12, gcnt_13, gcnt_16]; omega)) rfl rfl (Nat.le_of_ble_eq_true rfl) dX8_thingItem_41 ?_
          rw [bI_t (show 0 = 0 ∧ _ from ⟨rfl, h6⟩), if_pos (show 0 = 0 ∧ _ from ⟨rfl, h6⟩), hL2e]
          refine r_if_ne hR 51 dX8_thingItem_44 (by decide) (fun c44 => ?_) (fun c44 => absurd c44 (by decide))
          refine r_iconst hR (nI 0) (by decide) dX8_thingItem_51 ?_
          refine r_puti hR (by first | decide | assumption | (simp only [gcnt_4, gcnt_1, gcnt_2, gcnt_3, gcnt_12, gcnt_13, gcnt_16]; omega)) fp_X8_174 rfl rfl (Nat.le_of_ble_eq_true rfl) rfl rfl dX8_thingItem_52 ?_
          rw [rM_bad]
          refine r_aload0 hR dX8_thingItem_55 ?_
          refine r_iconst hR (nI 0) (by decide) dX8_thingItem_56 ?_
          refine r_bipush hR (nI 35) (by decide) dX8_thingItem_57 ?_
          refine r_cv2v hR kv_X8_184 (by decide) (t_X8_number h hL2 (by decide) (by decide)) (by first | decide | assumption | (simp only [gcnt_4, gcnt_1, gcnt_2, gcnt_3, gcnt_12, gcnt_13, gcnt_16]; omega)) rfl rfl (Nat.le_of_ble_eq_true rfl) dX8_thingItem_59 ?_
          rw [if_neg (fun z => h35 z.2), if_neg (fun z => h35 z.2)]
          refine r_istore2 hR (fun _ h => by first | (cases h; rfl) | exact absurd h (by simp)) dX8_thingItem_62 ?_
          refine r_aload0 hR dX8_thingItem_63 ?_
          refine r_bipush hR (nI 7) (by decide) dX8_thingItem_64 ?_
          refine r_iconst hR (nI 0) (by decide) dX8_thingItem_66 ?_
          refine r_bipush hR (nI 7) (by decide) dX8_thingItem_67 ?_
          refine r_iconst hR (nI 0) (by decide) dX8_thingItem_69 ?_
          refine r_cv4v hR kv_X8_187 (by decide) (t_X8_perhaps h hL2 (by decide) (by decide) (by decide)) (by first | decide | assumption | (simp only [gcnt_4, gcnt_1, gcnt_2, gcnt_3, gcnt_12, gcnt_13, gcnt_16]; omega)) rfl rfl (Nat.le_of_ble_eq_true rfl) dX8_thingItem_70 ?_
          rw [if_neg (fun z => absurd z.1 (by decide)), if_neg (fun z => absurd z.1 (by decide))]
          refine r_istore3 hR (fun _ h => by first | (cases h; rfl) | exact absurd h (by simp)) dX8_thingItem_73 ?_
          refine r_aload0 hR dX8_thingItem_74 ?_
          refine r_get hR (by first | decide | assumption | (simp only [gcnt_4, gcnt_1, gcnt_2, gcnt_3, gcnt_12, gcnt_13, gcnt_16]; omega)) fl_X8_174 rfl rfl dX8_thingItem_75 ?_
          try simp only [rM_9, rM_10, rM_11, rM_12, rM_13]
          refine r_if_ne hR 89 dX8_thingItem_78 (by decide) (fun c78 => ?_) (fun c78 => absurd c78 (by decide))
          refine r_vret hR dX8_thingItem_89 ?_
          rw [e]
          exact ⟨rfl, by rw [pm_id hr]⟩
  · skip
    have e : thiM T l S L = (1, S, L1) := by
      unfold thiM
      rw [if_neg h8, hL1e, if_neg h6]
    refine r_aload0 hR dX8_thingItem_0 ?_
    refine r_get hR (by first | decide | assumption | (simp only [gcnt_4, gcnt_1, gcnt_2, gcnt_3, gcnt_12, gcnt_13, gcnt_16]; omega)) fl_X8_168 rfl rfl dX8_thingItem_1 ?_
    try simp only [rM_9, rM_10, rM_11, rM_12, rM_13]
    refine r_istore1 hR (fun _ h => by first | (cases h; rfl) | exact absurd h (by simp)) dX8_thingItem_4 ?_
    refine r_aload0 hR dX8_thingItem_5 ?_
    refine r_aload0 hR dX8_thingItem_6 ?_
    refine r_get hR (by first | decide | assumption | (simp only [gcnt_4, gcnt_1, gcnt_2, gcnt_3, gcnt_12, gcnt_13, gcnt_16]; omega)) fl_X8_9 rfl rfl dX8_thingItem_7 ?_
    try simp only [rM_9, rM_10, rM_11, rM_12, rM_13]
    refine r_iconst hR (nI 3) (by decide) dX8_thingItem_10 ?_
    refine r_iald hR (by first | decide | assumption | (simp only [gcnt_4, gcnt_1, gcnt_2, gcnt_3, gcnt_12, gcnt_13, gcnt_16]; omega)) rfl rfl (by omega) (by decide) dX8_thingItem_11 ?_
    try simp only [rM_9, rM_10, rM_11, rM_12, rM_13]
    rw [rM_rowP hr 3 (by omega)]
    refine r_bipush hR (nI 8) (by decide) dX8_thingItem_12 ?_
    refine r_icmp_ne hR 21 dX8_thingItem_14 (by decide) (fun c14 => ?_) (fun c14 => ?_)
    · try simp (disch := omega) only [nI_ltI, nI_leI, nI_eq, bI_0, Decidable.not_not, lc_lt, lc_gt, lc_ge, lc_le, lc_eq, i64_toInt] at c14
      try simp (disch := omega) only [cv_lt, cv_le, cv_eq, nI_toInt, cv_0] at c14
      first
      | omega
      | refine r_iconst hR (nI 0) (by decide) dX8_thingItem_21 ?_
        refine r_puti hR (by first | decide | assumption | (simp only [gcnt_4, gcnt_1, gcnt_2, gcnt_3, gcnt_12, gcnt_13, gcnt_16]; omega)) fp_X8_174 rfl rfl (Nat.le_of_ble_eq_true rfl) rfl rfl dX8_thingItem_22 ?_
        rw [rM_bad]
        refine r_aload0 hR dX8_thingItem_25 ?_
        refine r_get hR (by first | decide | assumption | (simp only [gcnt_4, gcnt_1, gcnt_2, gcnt_3, gcnt_12, gcnt_13, gcnt_16]; omega)) fl_X8_174 rfl rfl dX8_thingItem_26 ?_
        try simp only [rM_9, rM_10, rM_11, rM_12, rM_13]
        refine r_if_eq hR 33 dX8_thingItem_29 (by decide) (fun c29 => ?_) (fun c29 => absurd rfl c29)
        refine r_aload0 hR dX8_thingItem_33 ?_
        refine r_cv0u hR kv_X8_178 (by decide) (t_X8_reads (rM_tap h) (rM_11 _ _ _) b3) (by first | decide | assumption | (simp only [gcnt_4, gcnt_1, gcnt_2, gcnt_3, gcnt_12, gcnt_13, gcnt_16]; omega)) rfl rfl (Nat.le_of_ble_eq_true rfl) dX8_thingItem_34 ?_
        rw [rM_lx, hL1e]
        refine r_aload0 hR dX8_thingItem_37 ?_
        refine r_aload0 hR dX8_thingItem_38 ?_
        refine r_bipush hR (nI 6) (by decide) dX8_thingItem_39 ?_
        refine r_cv1v hR kv_X8_181 (by decide) (t_X8_passes h hL1 (by decide) (by decide)) (by first | decide | assumption | (simp only [gcnt_4, gcnt_1, gcnt_2, gcnt_3, gcnt_12, gcnt_13, gcnt_16]; omega)) rfl rfl (Nat.le_of_ble_eq_true rfl) dX8_thingItem_41 ?_
        rw [bI_f (fun z => h6 z.2), if_neg (fun z => h6 z.2)]
        refine r_if_ne hR 51 dX8_thingItem_44 (by decide) (fun c44 => absurd c44 (fun q => q rfl)) (fun c44 => ?_)
        refine r_iconst hR (nI 1) (by decide) dX8_thingItem_47 ?_
        refine r_goto hR 52 dX8_thingItem_48 (by decide) ?_
        refine r_puti hR (by first | decide | assumption | (simp only [gcnt_4, gcnt_1, gcnt_2, gcnt_3, gcnt_12, gcnt_13, gcnt_16]; omega)) fp_X8_174 rfl rfl (Nat.le_of_ble_eq_true rfl) rfl rfl dX8_thingItem_52 ?_
        rw [rM_bad]
        refine r_aload0 hR dX8_thingItem_55 ?_
        refine r_iconst hR (nI 0) (by decide) dX8_thingItem_56 ?_
        refine r_bipush hR (nI 35) (by decide) dX8_thingItem_57 ?_
        refine r_cv2v hR kv_X8_184 (by decide) (t_X8_number h hL1 (by decide) (by decide)) (by first | decide | assumption | (simp only [gcnt_4, gcnt_1, gcnt_2, gcnt_3, gcnt_12, gcnt_13, gcnt_16]; omega)) rfl rfl (Nat.le_of_ble_eq_true rfl) dX8_thingItem_59 ?_
        rw [if_neg (fun z => absurd z.1 (by decide)), if_neg (fun z => absurd z.1 (by decide))]
        refine r_istore2 hR (fun _ h => by first | (cases h; rfl) | exact absurd h (by simp)) dX8_thingItem_62 ?_
        refine r_aload0 hR dX8_thingItem_63 ?_
        refine r_bipush hR (nI 7) (by decide) dX8_thingItem_64 ?_
        refine r_iconst hR (nI 0) (by decide) dX8_thingItem_66 ?_
        refine r_bipush hR (nI 7) (by decide) dX8_thingItem_67 ?_
        refine r_iconst hR (nI 0) (by decide) dX8_thingItem_69 ?_
        refine r_cv4v hR kv_X8_187 (by decide) (t_X8_perhaps h hL1 (by decide) (by decide) (by decide)) (by first | decide | assumption | (simp only [gcnt_4, gcnt_1, gcnt_2, gcnt_3, gcnt_12, gcnt_13, gcnt_16]; omega)) rfl rfl (Nat.le_of_ble_eq_true rfl) dX8_thingItem_70 ?_
        rw [if_neg (fun z => absurd z.1 (by decide)), if_neg (fun z => absurd z.1 (by decide))]
        refine r_istore3 hR (fun _ h => by first | (cases h; rfl) | exact absurd h (by simp)) dX8_thingItem_73 ?_
        refine r_aload0 hR dX8_thingItem_74 ?_
        refine r_get hR (by first | decide | assumption | (simp only [gcnt_4, gcnt_1, gcnt_2, gcnt_3, gcnt_12, gcnt_13, gcnt_16]; omega)) fl_X8_174 rfl rfl dX8_thingItem_75 ?_
        try simp only [rM_9, rM_10, rM_11, rM_12, rM_13]
        refine r_if_ne hR 89 dX8_thingItem_78 (by decide) (fun c78 => ?_) (fun c78 => absurd c78 (by decide))
        refine r_vret hR dX8_thingItem_89 ?_
        rw [e]
        exact ⟨rfl, by rw [pm_id hr]⟩
    · try simp (disch := omega) only [nI_ltI, nI_leI, nI_eq, bI_0, Decidable.not_not, lc_lt, lc_gt, lc_ge, lc_le, lc_eq, i64_toInt] at c14
      try simp (disch := omega) only [cv_lt, cv_le, cv_eq, nI_toInt, cv_0] at c14
      first
      | omega
      | refine r_iconst hR (nI 1) (by decide) dX8_thingItem_17 ?_
        refine r_goto hR 22 dX8_thingItem_18 (by decide) ?_
        refine r_puti hR (by first | decide | assumption | (simp only [gcnt_4, gcnt_1, gcnt_2, gcnt_3, gcnt_12, gcnt_13, gcnt_16]; omega)) fp_X8_174 rfl rfl (Nat.le_of_ble_eq_true rfl) rfl rfl dX8_thingItem_22 ?_
        rw [rM_bad]
        refine r_aload0 hR dX8_thingItem_25 ?_
        refine r_get hR (by first | decide | assumption | (simp only [gcnt_4, gcnt_1, gcnt_2, gcnt_3, gcnt_12, gcnt_13, gcnt_16]; omega)) fl_X8_174 rfl rfl dX8_thingItem_26 ?_
        try simp only [rM_9, rM_10, rM_11, rM_12, rM_13]
        refine r_if_eq hR 33 dX8_thingItem_29 (by decide) (fun c29 => ?_) (fun c29 => absurd rfl c29)
        refine r_aload0 hR dX8_thingItem_33 ?_
        refine r_cv0u hR kv_X8_178 (by decide) (t_X8_reads (rM_tap h) (rM_11 _ _ _) b3) (by first | decide | assumption | (simp only [gcnt_4, gcnt_1, gcnt_2, gcnt_3, gcnt_12, gcnt_13, gcnt_16]; omega)) rfl rfl (Nat.le_of_ble_eq_true rfl) dX8_thingItem_34 ?_
        rw [rM_lx, hL1e]
        refine r_aload0 hR dX8_thingItem_37 ?_
        refine r_aload0 hR dX8_thingItem_38 ?_
        refine r_bipush hR (nI 6) (by decide) dX8_thingItem_39 ?_
        refine r_cv1v hR kv_X8_181 (by decide) (t_X8_passes h hL1 (by decide) (by decide)) (by first | decide | assumption | (simp only [gcnt_4, gcnt_1, gcnt_2, gcnt_3, gcnt_12, gcnt_13, gcnt_16]; omega)) rfl rfl (Nat.le_of_ble_eq_true rfl) dX8_thingItem_41 ?_
        rw [bI_f (fun z => h6 z.2), if_neg (fun z => h6 z.2)]
        refine r_if_ne hR 51 dX8_thingItem_44 (by decide) (fun c44 => absurd c44 (fun q => q rfl)) (fun c44 => ?_)
        refine r_iconst hR (nI 1) (by decide) dX8_thingItem_47 ?_
        refine r_goto hR 52 dX8_thingItem_48 (by decide) ?_
        refine r_puti hR (by first | decide | assumption | (simp only [gcnt_4, gcnt_1, gcnt_2, gcnt_3, gcnt_12, gcnt_13, gcnt_16]; omega)) fp_X8_174 rfl rfl (Nat.le_of_ble_eq_true rfl) rfl rfl dX8_thingItem_52 ?_
        rw [rM_bad]
        refine r_aload0 hR dX8_thingItem_55 ?_
        refine r_iconst hR (nI 0) (by decide) dX8_thingItem_56 ?_
        refine r_bipush hR (nI 35) (by decide) dX8_thingItem_57 ?_
        refine r_cv2v hR kv_X8_184 (by decide) (t_X8_number h hL1 (by decide) (by decide)) (by first | decide | assumption | (simp only [gcnt_4, gcnt_1, gcnt_2, gcnt_3, gcnt_12, gcnt_13, gcnt_16]; omega)) rfl rfl (Nat.le_of_ble_eq_true rfl) dX8_thingItem_59 ?_
        rw [if_neg (fun z => absurd z.1 (by decide)), if_neg (fun z => absurd z.1 (by decide))]
        refine r_istore2 hR (fun _ h => by first | (cases h; rfl) | exact absurd h (by simp)) dX8_thingItem_62 ?_
        refine r_aload0 hR dX8_thingItem_63 ?_
        refine r_bipush hR (nI 7) (by decide) dX8_thingItem_64 ?_
        refine r_iconst hR (nI 0) (by decide) dX8_thingItem_66 ?_
        refine r_bipush hR (nI 7) (by decide) dX8_thingItem_67 ?_
        refine r_iconst hR (nI 0) (by decide) dX8_thingItem_69 ?_
        refine r_cv4v hR kv_X8_187 (by decide) (t_X8_perhaps h hL1 (by decide) (by decide) (by decide)) (by first | decide | assumption | (simp only [gcnt_4, gcnt_1, gcnt_2, gcnt_3, gcnt_12, gcnt_13, gcnt_16]; omega)) rfl rfl (Nat.le_of_ble_eq_true rfl) dX8_thingItem_70 ?_
        rw [if_neg (fun z => absurd z.1 (by decide)), if_neg (fun z => absurd z.1 (by decide))]
        refine r_istore3 hR (fun _ h => by first | (cases h; rfl) | exact absurd h (by simp)) dX8_thingItem_73 ?_
        refine r_aload0 hR dX8_thingItem_74 ?_
        refine r_get hR (by first | decide | assumption | (simp only [gcnt_4, gcnt_1, gcnt_2, gcnt_3, gcnt_12, gcnt_13, gcnt_16]; omega)) fl_X8_174 rfl rfl dX8_thingItem_75 ?_
        try simp only [rM_9, rM_10, rM_11, rM_12, rM_13]
        refine r_if_ne hR 89 dX8_thingItem_78 (by decide) (fun c78 => ?_) (fun c78 => absurd c78 (by decide))
        refine r_vret hR dX8_thingItem_89 ?_
        rw [e]
        exact ⟨rfl, by rw [pm_id hr]⟩


