theorem rotM_3 (T : Nat → Nat) (l n : Nat) : ∀ (d : Nat) (S : Nat → Nat) (L : Lx), (rotM T l n d S L).2.1 3 = S 3 := by
  induction n with
  | zero => intro d S L; rfl
  | succ n ih =>
    intro d S L
    unfold rotM
    split
    · rfl
    · split
      · rw [ih, vu_o (by omega)]
      · exact vu_o (by omega)
theorem rM_pp (M : gM) (S S' : Nat → Nat) (L : Lx) (b : Nat) (h : S 3 = S' 3) : rM (pm (pm M S) S') L b = rM (pm M S') L b := by rw [pm_pm M S S' h]
set_option maxHeartbeats 4000000 in
set_option maxRecDepth 100000 in
theorem t_X8_rotaItem {G : gG} {M : gM} {T S : Nat → Nat} {l : Nat} {L : Lx} (h : tapP M T l) (hL : lxB l L) (hr : rowP M 0 S) (w3 : S 3 ≤ 8) : Cf G mX8_rotaItem 4 [.ref (ad G 15 0)] (rM M L 0) none (rM (pm M (rotM T l 7 0 S L).2.1) (rotM T l 7 0 S L).2.2 (rotM T l 7 0 S L).1) := by
  have hT := h.2.2.2
  obtain ⟨b1, b2, b3, b4, b5, b6⟩ := id hL
  have hL1 := (lexN_B hT b3).1
  obtain ⟨a1, a2, a3, a4, a5, a6⟩ := id hL1
  refine Ct.of (by decide +kernel) (k := 2) (ls0 := [some (.ref (ad G 15 0)), none, none]) rfl rfl (fun _ _ => trivial) ?_
  intro P hR
  have JB : ∀ (N : gM) (L' : Lx) (i : Nat) (x2 : Option Value), rM N L' 1 = (rM (pm M (rotM T l 7 0 S L).2.1) (rotM T l 7 0 S L).2.2 (rotM T l 7 0 S L).1) → P 2 [some (.ref (ad G 15 0)), some (.int (nI i)), x2] [] (rM N L' 1) := by
    intro N L' i x2 hF
    refine r_aload0 hR dX8_rotaItem_2 ?_
    refine r_get hR (by first | decide | assumption | (simp only [gcnt_4, gcnt_1, gcnt_2, gcnt_3, gcnt_12, gcnt_13, gcnt_16]; omega)) fl_X8_174 rfl rfl dX8_rotaItem_3 ?_
    try simp only [rM_9, rM_10, rM_11, rM_12, rM_13]
    refine r_if_ne hR 51 dX8_rotaItem_6 (by decide) (fun c6 => ?_) (fun c6 => absurd c6 (by decide))
    refine r_vret hR dX8_rotaItem_51 ?_
    exact ⟨rfl, hF⟩
  have L0 : ∀ (j i : Nat) (N : gM) (S' : Nat → Nat) (L' : Lx) (x2 : Option Value), i + j = 7 → tapP N T l → lxB l L' → rowP N 0 S' → rM (pm N (rotM T l j i S' L').2.1) (rotM T l j i S' L').2.2 (rotM T l j i S' L').1 = (rM (pm M (rotM T l 7 0 S L).2.1) (rotM T l 7 0 S L).2.2 (rotM T l 7 0 S L).1) → P 2 [some (.ref (ad G 15 0)), some (.int (nI i)), x2] [] (rM N L' 0) := by
    intro j
    induction j with
    | zero =>
      intro i N S' L' x2 hij htN hLN hrN hF
      obtain rfl : i = 7 := by omega
      have bL := hLN.1
      refine r_aload0 hR dX8_rotaItem_2 ?_
      refine r_get hR (by first | decide | assumption | (simp only [gcnt_4, gcnt_1, gcnt_2, gcnt_3, gcnt_12, gcnt_13, gcnt_16]; omega)) fl_X8_174 rfl rfl dX8_rotaItem_3 ?_
      try simp only [rM_9, rM_10, rM_11, rM_12, rM_13]
      refine r_if_ne hR 51 dX8_rotaItem_6 (by decide) (fun c6 => absurd c6 (fun q => q rfl)) (fun c6 => ?_)
      refine r_iload1 hR dX8_rotaItem_9 ?_
      refine r_bipush hR (nI 7) (by decide) dX8_rotaItem_10 ?_
      refine r_icmp_ge hR 51 dX8_rotaItem_12 (by decide) (fun c12 => ?_) (fun c12 => ?_)
      · try simp (disch := omega) only [nI_ltI, nI_leI, nI_eq, bI_0, Decidable.not_not, lc_lt, lc_gt, lc_ge, lc_le, lc_eq, i64_toInt] at c12
        try simp (disch := omega) only [cv_lt, cv_le, cv_eq, nI_toInt, cv_0] at c12
        first
        | omega
        | refine r_vret hR dX8_rotaItem_51 ?_
          exact ⟨rfl, by rw [← hF]; show _ = rM (pm N S') L' 0; rw [pm_id hrN]⟩
      · try simp (disch := omega) only [nI_ltI, nI_leI, nI_eq, bI_0, Decidable.not_not, lc_lt, lc_gt, lc_ge, lc_le, lc_eq, i64_toInt] at c12
        try simp (disch := omega) only [cv_lt, cv_le, cv_eq, nI_toInt, cv_0] at c12
        first
        | omega
        | refine r_iload1 hR dX8_rotaItem_15 ?_
          refine r_if_eq hR 28 dX8_rotaItem_16 (by decide) (fun c16 => ?_) (fun c16 => ?_)
          · try simp (disch := omega) only [nI_ltI, nI_leI, nI_eq, bI_0, Decidable.not_not, lc_lt, lc_gt, lc_ge, lc_le, lc_eq, i64_toInt] at c16
            try simp (disch := omega) only [cv_lt, cv_le, cv_eq, nI_toInt, cv_0] at c16
            first
            | omega
            | omega
          · try simp (disch := omega) only [nI_ltI, nI_leI, nI_eq, bI_0, Decidable.not_not, lc_lt, lc_gt, lc_ge, lc_le, lc_eq, i64_toInt] at c16
            try simp (disch := omega) only [cv_lt, cv_le, cv_eq, nI_toInt, cv_0] at c16
            first
            | omega
            | refine r_aload0 hR dX8_rotaItem_19 ?_
              refine r_get hR (by first | decide | assumption | (simp only [gcnt_4, gcnt_1, gcnt_2, gcnt_3, gcnt_12, gcnt_13, gcnt_16]; omega)) fl_X8_168 rfl rfl dX8_rotaItem_20 ?_
              try simp only [rM_9, rM_10, rM_11, rM_12, rM_13]
              refine r_bipush hR (nI 20) (by decide) dX8_rotaItem_23 ?_
              refine r_icmp_ne hR 51 dX8_rotaItem_25 (by decide) (fun c25 => ?_) (fun c25 => ?_)
              · try simp (disch := omega) only [nI_ltI, nI_leI, nI_eq, bI_0, Decidable.not_not, lc_lt, lc_gt, lc_ge, lc_le, lc_eq, i64_toInt] at c25
                try simp (disch := omega) only [cv_lt, cv_le, cv_eq, nI_toInt, cv_0] at c25
                first
                | omega
                | refine r_vret hR dX8_rotaItem_51 ?_
                  exact ⟨rfl, by rw [← hF]; show _ = rM (pm N S') L' 0; rw [pm_id hrN]⟩
              · try simp (disch := omega) only [nI_ltI, nI_leI, nI_eq, bI_0, Decidable.not_not, lc_lt, lc_gt, lc_ge, lc_le, lc_eq, i64_toInt] at c25
                try simp (disch := omega) only [cv_lt, cv_le, cv_eq, nI_toInt, cv_0] at c25
                first
                | omega
                | omega
    | succ j ih =>
      intro i N S' L' x2 hij htN hLN hrN hF
      have bL := hLN.1
      have J28 : (i = 0 ∨ L'.1 = 20) → P 28 [some (.ref (ad G 15 0)), some (.int (nI i)), x2] [] (rM N L' 0) := by
        intro h0
        by_cases hq : isNum L' 8
        · have es : (rotM T l (j + 1) i S' L') = (rotM T l j (i + 1) (va_up S' (4 + i) L'.2.2.2) (lexN T l L'.2.2.1)) := by
            conv => lhs; unfold rotM
            rw [if_neg (by omega), if_pos hq]
          refine r_aload0 hR dX8_rotaItem_28 ?_
          refine r_iconst hR (nI 0) (by decide) dX8_rotaItem_29 ?_
          refine r_bipush hR (nI 8) (by decide) dX8_rotaItem_30 ?_
          refine r_cv2v hR kv_X8_184 (by decide) (t_X8_number htN hLN (by decide) (by decide)) (by first | decide | assumption | (simp only [gcnt_4, gcnt_1, gcnt_2, gcnt_3, gcnt_12, gcnt_13, gcnt_16]; omega)) rfl rfl (Nat.le_of_ble_eq_true rfl) dX8_rotaItem_32 ?_
          rw [if_pos (show 0 = 0 ∧ _ from ⟨rfl, hq⟩), if_pos (show 0 = 0 ∧ _ from ⟨rfl, hq⟩)]
          refine r_istore2 hR (fun _ h => by first | (cases h; rfl) | exact absurd h (by simp)) dX8_rotaItem_35 ?_
          refine r_aload0 hR dX8_rotaItem_36 ?_
          refine r_get hR (by first | decide | assumption | (simp only [gcnt_4, gcnt_1, gcnt_2, gcnt_3, gcnt_12, gcnt_13, gcnt_16]; omega)) fl_X8_9 rfl rfl dX8_rotaItem_37 ?_
          try simp only [rM_9, rM_10, rM_11, rM_12, rM_13]
          refine r_iconst hR (nI 4) (by decide) dX8_rotaItem_40 ?_
          refine r_iload1 hR dX8_rotaItem_41 ?_
          refine r_iadd hR dX8_rotaItem_42 ?_
          try rw [nI_add]
          refine r_iload2 hR dX8_rotaItem_43 ?_
          refine r_iast hR (by first | decide | assumption | (simp only [gcnt_4, gcnt_1, gcnt_2, gcnt_3, gcnt_12, gcnt_13, gcnt_16]; omega)) (fun _ => rfl) rfl (by omega) (by decide) dX8_rotaItem_44 ?_
          refine r_mem (M2 := rM (pm N (va_up S' (4 + i) L'.2.2.2)) (lexN T l L'.2.2.1) 0) (by rw [rM_row, pm_up hrN (by omega) (by omega)]) ?_
          refine r_iinc1 hR (nI 1) (by decide) (fun _ h => by first | (cases h; rfl) | exact absurd h (by simp)) dX8_rotaItem_45 ?_
          try rw [nI_add]
          refine r_goto hR 2 dX8_rotaItem_48 (by decide) ?_
          refine ih (i + 1) (pm N (va_up S' (4 + i) L'.2.2.2)) (va_up S' (4 + i) L'.2.2.2) (lexN T l L'.2.2.1) _ (by omega) (pm_tap htN) (lexN_B htN.2.2.2 hLN.2.2.1).1 (rowP_pm N _) ?_
          rw [rM_pp N _ _ _ _ (by rw [rotM_3]), ← hF, es]
        · have es : (rotM T l (j + 1) i S' L') = (1, (va_up S' (4 + i) L'.2.2.2), L') := by
            unfold rotM
            rw [if_neg (by omega), if_neg hq]
          refine r_aload0 hR dX8_rotaItem_28 ?_
          refine r_iconst hR (nI 0) (by decide) dX8_rotaItem_29 ?_
          refine r_bipush hR (nI 8) (by decide) dX8_rotaItem_30 ?_
          refine r_cv2v hR kv_X8_184 (by decide) (t_X8_number htN hLN (by decide) (by decide)) (by first | decide | assumption | (simp only [gcnt_4, gcnt_1, gcnt_2, gcnt_3, gcnt_12, gcnt_13, gcnt_16]; omega)) rfl rfl (Nat.le_of_ble_eq_true rfl) dX8_rotaItem_32 ?_
          rw [if_neg (fun z => hq z.2), if_neg (fun z => hq z.2)]
          refine r_istore2 hR (fun _ h => by first | (cases h; rfl) | exact absurd h (by simp)) dX8_rotaItem_35 ?_
          refine r_aload0 hR dX8_rotaItem_36 ?_
          refine r_get hR (by first | decide | assumption | (simp only [gcnt_4, gcnt_1, gcnt_2, gcnt_3, gcnt_12, gcnt_13, gcnt_16]; omega)) fl_X8_9 rfl rfl dX8_rotaItem_37 ?_
          try simp only [rM_9, rM_10, rM_11, rM_12, rM_13]
          refine r_iconst hR (nI 4) (by decide) dX8_rotaItem_40 ?_
          refine r_iload1 hR dX8_rotaItem_41 ?_
          refine r_iadd hR dX8_rotaItem_42 ?_
          try rw [nI_add]
          refine r_iload2 hR dX8_rotaItem_43 ?_
          refine r_iast hR (by first | decide | assumption | (simp only [gcnt_4, gcnt_1, gcnt_2, gcnt_3, gcnt_12, gcnt_13, gcnt_16]; omega)) (fun _ => rfl) rfl (by omega) (by decide) dX8_rotaItem_44 ?_
          refine r_mem (M2 := rM (pm N (va_up S' (4 + i) L'.2.2.2)) L' 1) (by rw [rM_row, pm_up hrN (by omega) (by omega)]) ?_
          refine r_iinc1 hR (nI 1) (by decide) (fun _ h => by first | (cases h; rfl) | exact absurd h (by simp)) dX8_rotaItem_45 ?_
          try rw [nI_add]
          refine r_goto hR 2 dX8_rotaItem_48 (by decide) ?_
          refine JB (pm N (va_up S' (4 + i) L'.2.2.2)) L' (i + 1) _ ?_
          rw [← hF, es]
      refine r_aload0 hR dX8_rotaItem_2 ?_
      refine r_get hR (by first | decide | assumption | (simp only [gcnt_4, gcnt_1, gcnt_2, gcnt_3, gcnt_12, gcnt_13, gcnt_16]; omega)) fl_X8_174 rfl rfl dX8_rotaItem_3 ?_
      try simp only [rM_9, rM_10, rM_11, rM_12, rM_13]
      refine r_if_ne hR 51 dX8_rotaItem_6 (by decide) (fun c6 => absurd c6 (fun q => q rfl)) (fun c6 => ?_)
      refine r_iload1 hR dX8_rotaItem_9 ?_
      refine r_bipush hR (nI 7) (by decide) dX8_rotaItem_10 ?_
      refine r_icmp_ge hR 51 dX8_rotaItem_12 (by decide) (fun c12 => ?_) (fun c12 => ?_)
      · try simp (disch := omega) only [nI_ltI, nI_leI, nI_eq, bI_0, Decidable.not_not, lc_lt, lc_gt, lc_ge, lc_le, lc_eq, i64_toInt] at c12
        try simp (disch := omega) only [cv_lt, cv_le, cv_eq, nI_toInt, cv_0] at c12
        first
        | omega
        | refine r_vret hR dX8_rotaItem_51 ?_
          first
          | omega
          | (have es : (rotM T l (j + 1) i S' L') = (0, S', L') := by
               unfold rotM
               rw [if_pos (by omega)]
             exact ⟨rfl, by rw [← hF, es, pm_id hrN]⟩)
      · try simp (disch := omega) only [nI_ltI, nI_leI, nI_eq, bI_0, Decidable.not_not, lc_lt, lc_gt, lc_ge, lc_le, lc_eq, i64_toInt] at c12
        try simp (disch := omega) only [cv_lt, cv_le, cv_eq, nI_toInt, cv_0] at c12
        first
        | omega
        | refine r_iload1 hR dX8_rotaItem_15 ?_
          refine r_if_eq hR 28 dX8_rotaItem_16 (by decide) (fun c16 => ?_) (fun c16 => ?_)
          · try simp (disch := omega) only [nI_ltI, nI_leI, nI_eq, bI_0, Decidable.not_not, lc_lt, lc_gt, lc_ge, lc_le, lc_eq, i64_toInt] at c16
            try simp (disch := omega) only [cv_lt, cv_le, cv_eq, nI_toInt, cv_0] at c16
            first
            | omega
            | exact J28 (by omega)
          · try simp (disch := omega) only [nI_ltI, nI_leI, nI_eq, bI_0, Decidable.not_not, lc_lt, lc_gt, lc_ge, lc_le, lc_eq, i64_toInt] at c16
            try simp (disch := omega) only [cv_lt, cv_le, cv_eq, nI_toInt, cv_0] at c16
            first
            | omega
            | refine r_aload0 hR dX8_rotaItem_19 ?_
              refine r_get hR (by first | decide | assumption | (simp only [gcnt_4, gcnt_1, gcnt_2, gcnt_3, gcnt_12, gcnt_13, gcnt_16]; omega)) fl_X8_168 rfl rfl dX8_rotaItem_20 ?_
              try simp only [rM_9, rM_10, rM_11, rM_12, rM_13]
              refine r_bipush hR (nI 20) (by decide) dX8_rotaItem_23 ?_
              refine r_icmp_ne hR 51 dX8_rotaItem_25 (by decide) (fun c25 => ?_) (fun c25 => ?_)
              · try simp (disch := omega) only [nI_ltI, nI_leI, nI_eq, bI_0, Decidable.not_not, lc_lt, lc_gt, lc_ge, lc_le, lc_eq, i64_toInt] at c25
                try simp (disch := omega) only [cv_lt, cv_le, cv_eq, nI_toInt, cv_0] at c25
                first
                | omega
                | refine r_vret hR dX8_rotaItem_51 ?_
                  first
                  | omega
                  | (have es : (rotM T l (j + 1) i S' L') = (0, S', L') := by
                       unfold rotM
                       rw [if_pos (by omega)]
                     exact ⟨rfl, by rw [← hF, es, pm_id hrN]⟩)
              · try simp (disch := omega) only [nI_ltI, nI_leI, nI_eq, bI_0, Decidable.not_not, lc_lt, lc_gt, lc_ge, lc_le, lc_eq, i64_toInt] at c25
                try simp (disch := omega) only [cv_lt, cv_le, cv_eq, nI_toInt, cv_0] at c25
                first
                | omega
                | exact J28 (by omega)
  refine r_iconst hR (nI 0) (by decide) dX8_rotaItem_0 ?_
  refine r_istore1 hR (fun _ h => by first | (cases h; rfl) | exact absurd h (by simp)) dX8_rotaItem_1 ?_
  exact L0 7 0 M S L _ rfl h hL hr rfl


set_option maxHeartbeats 4000000 in
set_option maxRecDepth 100000 in
theorem t_X8_item {G : gG} {M : gM} {T S : Nat → Nat} {l : Nat} {L : Lx} (h : tapP M T l) (hL : lxB l L) (hr : rowP M 0 S) (w3 : S 3 ≤ 8) (w2 : S 2 < 256) : Cf G mX8_item 6 [.ref (ad G 15 0)] (rM M L 0) none (rM (pm M (iteM T l S L).2.1) (iteM T l S L).2.2 (iteM T l S L).1) := by
  have hT := h.2.2.2
  obtain ⟨b1, b2, b3, b4, b5, b6⟩ := id hL
  have hL1 := (lexN_B hT b3).1
  obtain ⟨a1, a2, a3, a4, a5, a6⟩ := id hL1
  refine Ct.of (by decide +kernel) (k := 2) (ls0 := [some (.ref (ad G 15 0)), none, none]) rfl rfl (fun _ _ => trivial) ?_
  intro P hR
  obtain ⟨L1, hL1e⟩ : ∃ L1, lexN T l L.2.2.1 = L1 := ⟨_, rfl⟩
  rw [hL1e] at hL1 a1 a2 a3 a4 a5 a6
  have hn2 := (lexN_B hT a3).1
  by_cases k5 : L.1 ≤ 5
  · have e : iteM T l S L = thiM T l S L := by unfold iteM; rw [if_pos k5]
    refine r_aload0 hR dX8_item_0 ?_
    refine r_get hR (by first | decide | assumption | (simp only [gcnt_4, gcnt_1, gcnt_2, gcnt_3, gcnt_12, gcnt_13, gcnt_16]; omega)) fl_X8_168 rfl rfl dX8_item_1 ?_
    try simp only [rM_9, rM_10, rM_11, rM_12, rM_13]
    refine r_iconst hR (nI 5) (by decide) dX8_item_4 ?_
    refine r_icmp_gt hR 15 dX8_item_5 (by decide) (fun c5 => ?_) (fun c5 => ?_)
    · try simp (disch := omega) only [nI_ltI, nI_leI, nI_eq, bI_0, Decidable.not_not, lc_lt, lc_gt, lc_ge, lc_le, lc_eq, i64_toInt] at c5
      try simp (disch := omega) only [cv_lt, cv_le, cv_eq, nI_toInt, cv_0] at c5
      first
      | omega
      | omega
    · try simp (disch := omega) only [nI_ltI, nI_leI, nI_eq, bI_0, Decidable.not_not, lc_lt, lc_gt, lc_ge, lc_le, lc_eq, i64_toInt] at c5
      try simp (disch := omega) only [cv_lt, cv_le, cv_eq, nI_toInt, cv_0] at c5
      first
      | omega
      | refine r_aload0 hR dX8_item_8 ?_
        refine r_cv0u hR kv_X8_191 (by decide) (t_X8_thingItem h hL hr w3) (by first | decide | assumption | (simp only [gcnt_4, gcnt_1, gcnt_2, gcnt_3, gcnt_12, gcnt_13, gcnt_16]; omega)) rfl rfl (Nat.le_of_ble_eq_true rfl) dX8_item_9 ?_
        refine r_goto hR 122 dX8_item_12 (by decide) ?_
        refine r_vret hR dX8_item_122 ?_
        rw [e]
        exact ⟨rfl, rfl⟩
  by_cases k8 : L.1 = 8
  · have e : iteM T l S L = rotM T l 7 0 S L1 := by unfold iteM; rw [if_neg k5, if_pos k8, hL1e]
    refine r_aload0 hR dX8_item_0 ?_
    refine r_get hR (by first | decide | assumption | (simp only [gcnt_4, gcnt_1, gcnt_2, gcnt_3, gcnt_12, gcnt_13, gcnt_16]; omega)) fl_X8_168 rfl rfl dX8_item_1 ?_
    try simp only [rM_9, rM_10, rM_11, rM_12, rM_13]
    refine r_iconst hR (nI 5) (by decide) dX8_item_4 ?_
    refine r_icmp_gt hR 15 dX8_item_5 (by decide) (fun c5 => ?_) (fun c5 => ?_)
    · try simp (disch := omega) only [nI_ltI, nI_leI, nI_eq, bI_0, Decidable.not_not, lc_lt, lc_gt, lc_ge, lc_le, lc_eq, i64_toInt] at c5
      try simp (disch := omega) only [cv_lt, cv_le, cv_eq, nI_toInt, cv_0] at c5
      first
      | omega
      | refine r_aload0 hR dX8_item_15 ?_
        refine r_bipush hR (nI 8) (by decide) dX8_item_16 ?_
        refine r_cv1v hR kv_X8_181 (by decide) (t_X8_passes h hL (by decide) (by decide)) (by first | decide | assumption | (simp only [gcnt_4, gcnt_1, gcnt_2, gcnt_3, gcnt_12, gcnt_13, gcnt_16]; omega)) rfl rfl (Nat.le_of_ble_eq_true rfl) dX8_item_18 ?_
        rw [bI_t (show 0 = 0 ∧ _ from ⟨rfl, k8⟩), if_pos (show 0 = 0 ∧ _ from ⟨rfl, k8⟩), hL1e]
        refine r_if_eq hR 31 dX8_item_21 (by decide) (fun c21 => absurd c21 (by decide)) (fun c21 => ?_)
        refine r_aload0 hR dX8_item_24 ?_
        refine r_cv0u hR kv_X8_194 (by decide) (t_X8_rotaItem h hL1 hr w3) (by first | decide | assumption | (simp only [gcnt_4, gcnt_1, gcnt_2, gcnt_3, gcnt_12, gcnt_13, gcnt_16]; omega)) rfl rfl (Nat.le_of_ble_eq_true rfl) dX8_item_25 ?_
        refine r_goto hR 122 dX8_item_28 (by decide) ?_
        refine r_vret hR dX8_item_122 ?_
        rw [e]
        exact ⟨rfl, rfl⟩
    · try simp (disch := omega) only [nI_ltI, nI_leI, nI_eq, bI_0, Decidable.not_not, lc_lt, lc_gt, lc_ge, lc_le, lc_eq, i64_toInt] at c5
      try simp (disch := omega) only [cv_lt, cv_le, cv_eq, nI_toInt, cv_0] at c5
      first
      | omega
      | omega
  by_cases k9 : L.1 = 9
  · skip
    have e : iteM T l S L = illM T l S 1 L1 := by
      unfold iteM
      rw [if_neg k5, if_neg k8, if_pos (by omega), hL1e]
      first | rw [if_pos k9] | rw [if_neg (by omega)]
    have J68 : P 68 [some (.ref (ad G 15 0)), some (.int (nI 1)), none] [] (rM M L1 0) := by
      by_cases hq : isNum L1 7
      · have e2 : illM T l S 1 L1 = (0, va_up S 2 (mkS (S 2) L1.2.2.2 1), lexN T l L1.2.2.1) := by unfold illM; rw [if_pos hq]
        refine r_aload0 hR dX8_item_68 ?_
        refine r_iconst hR (nI 0) (by decide) dX8_item_69 ?_
        refine r_bipush hR (nI 7) (by decide) dX8_item_70 ?_
        refine r_cv2v hR kv_X8_184 (by decide) (t_X8_number h hL1 (by decide) (by decide)) (by first | decide | assumption | (simp only [gcnt_4, gcnt_1, gcnt_2, gcnt_3, gcnt_12, gcnt_13, gcnt_16]; omega)) rfl rfl (Nat.le_of_ble_eq_true rfl) dX8_item_72 ?_
        rw [if_pos (show 0 = 0 ∧ _ from ⟨rfl, hq⟩), if_pos (show 0 = 0 ∧ _ from ⟨rfl, hq⟩)]
        refine r_istore2 hR (fun _ h => by first | (cases h; rfl) | exact absurd h (by simp)) dX8_item_75 ?_
        refine r_aload0 hR dX8_item_76 ?_
        refine r_get hR (by first | decide | assumption | (simp only [gcnt_4, gcnt_1, gcnt_2, gcnt_3, gcnt_12, gcnt_13, gcnt_16]; omega)) fl_X8_174 rfl rfl dX8_item_77 ?_
        try simp only [rM_9, rM_10, rM_11, rM_12, rM_13]
        refine r_if_ne hR 89 dX8_item_80 (by decide) (fun c80 => absurd c80 (fun q => q rfl)) (fun c80 => ?_)
        refine r_aload0 hR dX8_item_83 ?_
        refine r_iload2 hR dX8_item_84 ?_
        refine r_iload1 hR dX8_item_85 ?_
        refine r_cv2u hR kv_X8_59 (by decide) (t_X8_ails (rM_rowP hr) w2 (by omega) (by decide)) (by first | decide | assumption | (simp only [gcnt_4, gcnt_1, gcnt_2, gcnt_3, gcnt_12, gcnt_13, gcnt_16]; omega)) rfl rfl (Nat.le_of_ble_eq_true rfl) dX8_item_86 ?_
        rw [rM_row, pm_up hr (by omega) (by omega)]
        refine r_goto hR 122 dX8_item_89 (by decide) ?_
        refine r_vret hR dX8_item_122 ?_
        rw [e, e2]
        exact ⟨rfl, rfl⟩
      · have e2 : illM T l S 1 L1 = (1, S, L1) := by unfold illM; rw [if_neg hq]
        refine r_aload0 hR dX8_item_68 ?_
        refine r_iconst hR (nI 0) (by decide) dX8_item_69 ?_
        refine r_bipush hR (nI 7) (by decide) dX8_item_70 ?_
        refine r_cv2v hR kv_X8_184 (by decide) (t_X8_number h hL1 (by decide) (by decide)) (by first | decide | assumption | (simp only [gcnt_4, gcnt_1, gcnt_2, gcnt_3, gcnt_12, gcnt_13, gcnt_16]; omega)) rfl rfl (Nat.le_of_ble_eq_true rfl) dX8_item_72 ?_
        rw [if_neg (fun z => hq z.2), if_neg (fun z => hq z.2)]
        refine r_istore2 hR (fun _ h => by first | (cases h; rfl) | exact absurd h (by simp)) dX8_item_75 ?_
        refine r_aload0 hR dX8_item_76 ?_
        refine r_get hR (by first | decide | assumption | (simp only [gcnt_4, gcnt_1, gcnt_2, gcnt_3, gcnt_12, gcnt_13, gcnt_16]; omega)) fl_X8_174 rfl rfl dX8_item_77 ?_
        try simp only [rM_9, rM_10, rM_11, rM_12, rM_13]
        refine r_if_ne hR 89 dX8_item_80 (by decide) (fun c80 => ?_) (fun c80 => absurd c80 (by decide))
        refine r_goto hR 122 dX8_item_89 (by decide) ?_
        refine r_vret hR dX8_item_122 ?_
        rw [e, e2]
        exact ⟨rfl, by rw [pm_id hr]⟩
    refine r_aload0 hR dX8_item_0 ?_
    refine r_get hR (by first | decide | assumption | (simp only [gcnt_4, gcnt_1, gcnt_2, gcnt_3, gcnt_12, gcnt_13, gcnt_16]; omega)) fl_X8_168 rfl rfl dX8_item_1 ?_
    try simp only [rM_9, rM_10, rM_11, rM_12, rM_13]
    refine r_iconst hR (nI 5) (by decide) dX8_item_4 ?_
    refine r_icmp_gt hR 15 dX8_item_5 (by decide) (fun c5 => ?_) (fun c5 => ?_)
    · try simp (disch := omega) only [nI_ltI, nI_leI, nI_eq, bI_0, Decidable.not_not, lc_lt, lc_gt, lc_ge, lc_le, lc_eq, i64_toInt] at c5
      try simp (disch := omega) only [cv_lt, cv_le, cv_eq, nI_toInt, cv_0] at c5
      first
      | omega
      | refine r_aload0 hR dX8_item_15 ?_
        refine r_bipush hR (nI 8) (by decide) dX8_item_16 ?_
        refine r_cv1v hR kv_X8_181 (by decide) (t_X8_passes h hL (by decide) (by decide)) (by first | decide | assumption | (simp only [gcnt_4, gcnt_1, gcnt_2, gcnt_3, gcnt_12, gcnt_13, gcnt_16]; omega)) rfl rfl (Nat.le_of_ble_eq_true rfl) dX8_item_18 ?_
        rw [bI_f (show ¬ (0 = 0 ∧ L.1 = 8) by omega), if_neg (show ¬ (0 = 0 ∧ L.1 = 8) by omega)]
        refine r_if_eq hR 31 dX8_item_21 (by decide) (fun c21 => ?_) (fun c21 => absurd rfl c21)
        refine r_aload0 hR dX8_item_31 ?_
        refine r_get hR (by first | decide | assumption | (simp only [gcnt_4, gcnt_1, gcnt_2, gcnt_3, gcnt_12, gcnt_13, gcnt_16]; omega)) fl_X8_168 rfl rfl dX8_item_32 ?_
        try simp only [rM_9, rM_10, rM_11, rM_12, rM_13]
        refine r_bipush hR (nI 9) (by decide) dX8_item_35 ?_
        refine r_icmp_eq hR 49 dX8_item_37 (by decide) (fun c37 => ?_) (fun c37 => ?_)
        · try simp (disch := omega) only [nI_ltI, nI_leI, nI_eq, bI_0, Decidable.not_not, lc_lt, lc_gt, lc_ge, lc_le, lc_eq, i64_toInt] at c37
          try simp (disch := omega) only [cv_lt, cv_le, cv_eq, nI_toInt, cv_0] at c37
          first
          | omega
          | refine r_aload0 hR dX8_item_49 ?_
            refine r_get hR (by first | decide | assumption | (simp only [gcnt_4, gcnt_1, gcnt_2, gcnt_3, gcnt_12, gcnt_13, gcnt_16]; omega)) fl_X8_168 rfl rfl dX8_item_50 ?_
            try simp only [rM_9, rM_10, rM_11, rM_12, rM_13]
            refine r_bipush hR (nI 9) (by decide) dX8_item_53 ?_
            refine r_icmp_ne hR 62 dX8_item_55 (by decide) (fun c55 => ?_) (fun c55 => ?_)
            · try simp (disch := omega) only [nI_ltI, nI_leI, nI_eq, bI_0, Decidable.not_not, lc_lt, lc_gt, lc_ge, lc_le, lc_eq, i64_toInt] at c55
              try simp (disch := omega) only [cv_lt, cv_le, cv_eq, nI_toInt, cv_0] at c55
              first
              | omega
              | refine r_iconst hR (nI 0) (by decide) dX8_item_62 ?_
                refine r_istore1 hR (fun _ h => by first | (cases h; rfl) | exact absurd h (by simp)) dX8_item_63 ?_
                refine r_aload0 hR dX8_item_64 ?_
                refine r_cv0u hR kv_X8_178 (by decide) (t_X8_reads (rM_tap h) (rM_11 _ _ _) b3) (by first | decide | assumption | (simp only [gcnt_4, gcnt_1, gcnt_2, gcnt_3, gcnt_12, gcnt_13, gcnt_16]; omega)) rfl rfl (Nat.le_of_ble_eq_true rfl) dX8_item_65 ?_
                rw [rM_lx, hL1e]
                exact J68
            · try simp (disch := omega) only [nI_ltI, nI_leI, nI_eq, bI_0, Decidable.not_not, lc_lt, lc_gt, lc_ge, lc_le, lc_eq, i64_toInt] at c55
              try simp (disch := omega) only [cv_lt, cv_le, cv_eq, nI_toInt, cv_0] at c55
              first
              | omega
              | refine r_iconst hR (nI 1) (by decide) dX8_item_58 ?_
                refine r_goto hR 63 dX8_item_59 (by decide) ?_
                refine r_istore1 hR (fun _ h => by first | (cases h; rfl) | exact absurd h (by simp)) dX8_item_63 ?_
                refine r_aload0 hR dX8_item_64 ?_
                refine r_cv0u hR kv_X8_178 (by decide) (t_X8_reads (rM_tap h) (rM_11 _ _ _) b3) (by first | decide | assumption | (simp only [gcnt_4, gcnt_1, gcnt_2, gcnt_3, gcnt_12, gcnt_13, gcnt_16]; omega)) rfl rfl (Nat.le_of_ble_eq_true rfl) dX8_item_65 ?_
                rw [rM_lx, hL1e]
                exact J68
        · try simp (disch := omega) only [nI_ltI, nI_leI, nI_eq, bI_0, Decidable.not_not, lc_lt, lc_gt, lc_ge, lc_le, lc_eq, i64_toInt] at c37
          try simp (disch := omega) only [cv_lt, cv_le, cv_eq, nI_toInt, cv_0] at c37
          first
          | omega
          | refine r_aload0 hR dX8_item_40 ?_
            refine r_get hR (by first | decide | assumption | (simp only [gcnt_4, gcnt_1, gcnt_2, gcnt_3, gcnt_12, gcnt_13, gcnt_16]; omega)) fl_X8_168 rfl rfl dX8_item_41 ?_
            try simp only [rM_9, rM_10, rM_11, rM_12, rM_13]
            refine r_bipush hR (nI 10) (by decide) dX8_item_44 ?_
            refine r_icmp_ne hR 92 dX8_item_46 (by decide) (fun c46 => ?_) (fun c46 => ?_)
            · try simp (disch := omega) only [nI_ltI, nI_leI, nI_eq, bI_0, Decidable.not_not, lc_lt, lc_gt, lc_ge, lc_le, lc_eq, i64_toInt] at c46
              try simp (disch := omega) only [cv_lt, cv_le, cv_eq, nI_toInt, cv_0] at c46
              first
              | omega
              | omega
            · try simp (disch := omega) only [nI_ltI, nI_leI, nI_eq, bI_0, Decidable.not_not, lc_lt, lc_gt, lc_ge, lc_le, lc_eq, i64_toInt] at c46
              try simp (disch := omega) only [cv_lt, cv_le, cv_eq, nI_toInt, cv_0] at c46
              first
              | omega
              | refine r_aload0 hR dX8_item_49 ?_
                refine r_get hR (by first | decide | assumption | (simp only [gcnt_4, gcnt_1, gcnt_2, gcnt_3, gcnt_12, gcnt_13, gcnt_16]; omega)) fl_X8_168 rfl rfl dX8_item_50 ?_
                try simp only [rM_9, rM_10, rM_11, rM_12, rM_13]
                refine r_bipush hR (nI 9) (by decide) dX8_item_53 ?_
                refine r_icmp_ne hR 62 dX8_item_55 (by decide) (fun c55 => ?_) (fun c55 => ?_)
                · try simp (disch := omega) only [nI_ltI, nI_leI, nI_eq, bI_0, Decidable.not_not, lc_lt, lc_gt, lc_ge, lc_le, lc_eq, i64_toInt] at c55
                  try simp (disch := omega) only [cv_lt, cv_le, cv_eq, nI_toInt, cv_0] at c55
                  first
                  | omega
                  | refine r_iconst hR (nI 0) (by decide) dX8_item_62 ?_
                    refine r_istore1 hR (fun _ h => by first | (cases h; rfl) | exact absurd h (by simp)) dX8_item_63 ?_
                    refine r_aload0 hR dX8_item_64 ?_
                    refine r_cv0u hR kv_X8_178 (by decide) (t_X8_reads (rM_tap h) (rM_11 _ _ _) b3) (by first | decide | assumption | (simp only [gcnt_4, gcnt_1, gcnt_2, gcnt_3, gcnt_12, gcnt_13, gcnt_16]; omega)) rfl rfl (Nat.le_of_ble_eq_true rfl) dX8_item_65 ?_
                    rw [rM_lx, hL1e]
                    exact J68
                · try simp (disch := omega) only [nI_ltI, nI_leI, nI_eq, bI_0, Decidable.not_not, lc_lt, lc_gt, lc_ge, lc_le, lc_eq, i64_toInt] at c55
                  try simp (disch := omega) only [cv_lt, cv_le, cv_eq, nI_toInt, cv_0] at c55
                  first
                  | omega
                  | refine r_iconst hR (nI 1) (by decide) dX8_item_58 ?_
                    refine r_goto hR 63 dX8_item_59 (by decide) ?_
                    refine r_istore1 hR (fun _ h => by first | (cases h; rfl) | exact absurd h (by simp)) dX8_item_63 ?_
                    refine r_aload0 hR dX8_item_64 ?_
                    refine r_cv0u hR kv_X8_178 (by decide) (t_X8_reads (rM_tap h) (rM_11 _ _ _) b3) (by first | decide | assumption | (simp only [gcnt_4, gcnt_1, gcnt_2, gcnt_3, gcnt_12, gcnt_13, gcnt_16]; omega)) rfl rfl (Nat.le_of_ble_eq_true rfl) dX8_item_65 ?_
                    rw [rM_lx, hL1e]
                    exact J68
    · try simp (disch := omega) only [nI_ltI, nI_leI, nI_eq, bI_0, Decidable.not_not, lc_lt, lc_gt, lc_ge, lc_le, lc_eq, i64_toInt] at c5
      try simp (disch := omega) only [cv_lt, cv_le, cv_eq, nI_toInt, cv_0] at c5
      first
      | omega
      | omega
  by_cases k10 : L.1 = 10
  · skip
    have e : iteM T l S L = illM T l S 0 L1 := by
      unfold iteM
      rw [if_neg k5, if_neg k8, if_pos (by omega), hL1e]
      first | rw [if_pos k10] | rw [if_neg (by omega)]
    have J68 : P 68 [some (.ref (ad G 15 0)), some (.int (nI 0)), none] [] (rM M L1 0) := by
      by_cases hq : isNum L1 7
      · have e2 : illM T l S 0 L1 = (0, va_up S 2 (mkS (S 2) L1.2.2.2 0), lexN T l L1.2.2.1) := by unfold illM; rw [if_pos hq]
        refine r_aload0 hR dX8_item_68 ?_
        refine r_iconst hR (nI 0) (by decide) dX8_item_69 ?_
        refine r_bipush hR (nI 7) (by decide) dX8_item_70 ?_
        refine r_cv2v hR kv_X8_184 (by decide) (t_X8_number h hL1 (by decide) (by decide)) (by first | decide | assumption | (simp only [gcnt_4, gcnt_1, gcnt_2, gcnt_3, gcnt_12, gcnt_13, gcnt_16]; omega)) rfl rfl (Nat.le_of_ble_eq_true rfl) dX8_item_72 ?_
        rw [if_pos (show 0 = 0 ∧ _ from ⟨rfl, hq⟩), if_pos (show 0 = 0 ∧ _ from ⟨rfl, hq⟩)]
        refine r_istore2 hR (fun _ h => by first | (cases h; rfl) | exact absurd h (by simp)) dX8_item_75 ?_
        refine r_aload0 hR dX8_item_76 ?_
        refine r_get hR (by first | decide | assumption | (simp only [gcnt_4, gcnt_1, gcnt_2, gcnt_3, gcnt_12, gcnt_13, gcnt_16]; omega)) fl_X8_174 rfl rfl dX8_item_77 ?_
        try simp only [rM_9, rM_10, rM_11, rM_12, rM_13]
        refine r_if_ne hR 89 dX8_item_80 (by decide) (fun c80 => absurd c80 (fun q => q rfl)) (fun c80 => ?_)
        refine r_aload0 hR dX8_item_83 ?_
        refine r_iload2 hR dX8_item_84 ?_
        refine r_iload1 hR dX8_item_85 ?_
        refine r_cv2u hR kv_X8_59 (by decide) (t_X8_ails (rM_rowP hr) w2 (by omega) (by decide)) (by first | decide | assumption | (simp only [gcnt_4, gcnt_1, gcnt_2, gcnt_3, gcnt_12, gcnt_13, gcnt_16]; omega)) rfl rfl (Nat.le_of_ble_eq_true rfl) dX8_item_86 ?_
        rw [rM_row, pm_up hr (by omega) (by omega)]
        refine r_goto hR 122 dX8_item_89 (by decide) ?_
        refine r_vret hR dX8_item_122 ?_
        rw [e, e2]
        exact ⟨rfl, rfl⟩
      · have e2 : illM T l S 0 L1 = (1, S, L1) := by unfold illM; rw [if_neg hq]
        refine r_aload0 hR dX8_item_68 ?_
        refine r_iconst hR (nI 0) (by decide) dX8_item_69 ?_
        refine r_bipush hR (nI 7) (by decide) dX8_item_70 ?_
        refine r_cv2v hR kv_X8_184 (by decide) (t_X8_number h hL1 (by decide) (by decide)) (by first | decide | assumption | (simp only [gcnt_4, gcnt_1, gcnt_2, gcnt_3, gcnt_12, gcnt_13, gcnt_16]; omega)) rfl rfl (Nat.le_of_ble_eq_true rfl) dX8_item_72 ?_
        rw [if_neg (fun z => hq z.2), if_neg (fun z => hq z.2)]
        refine r_istore2 hR (fun _ h => by first | (cases h; rfl) | exact absurd h (by simp)) dX8_item_75 ?_
        refine r_aload0 hR dX8_item_76 ?_
        refine r_get hR (by first | decide | assumption | (simp only [gcnt_4, gcnt_1, gcnt_2, gcnt_3, gcnt_12, gcnt_13, gcnt_16]; omega)) fl_X8_174 rfl rfl dX8_item_77 ?_
        try simp only [rM_9, rM_10, rM_11, rM_12, rM_13]
        refine r_if_ne hR 89 dX8_item_80 (by decide) (fun c80 => ?_) (fun c80 => absurd c80 (by decide))
        refine r_goto hR 122 dX8_item_89 (by decide) ?_
        refine r_vret hR dX8_item_122 ?_
        rw [e, e2]
        exact ⟨rfl, by rw [pm_id hr]⟩
    refine r_aload0 hR dX8_item_0 ?_
    refine r_get hR (by first | decide | assumption | (simp only [gcnt_4, gcnt_1, gcnt_2, gcnt_3, gcnt_12, gcnt_13, gcnt_16]; omega)) fl_X8_168 rfl rfl dX8_item_1 ?_
    try simp only [rM_9, rM_10, rM_11, rM_12, rM_13]
    refine r_iconst hR (nI 5) (by decide) dX8_item_4 ?_
    refine r_icmp_gt hR 15 dX8_item_5 (by decide) (fun c5 => ?_) (fun c5 => ?_)
    · try simp (disch := omega) only [nI_ltI, nI_leI, nI_eq, bI_0, Decidable.not_not, lc_lt, lc_gt, lc_ge, lc_le, lc_eq, i64_toInt] at c5
      try simp (disch := omega) only [cv_lt, cv_le, cv_eq, nI_toInt, cv_0] at c5
      first
      | omega
      | refine r_aload0 hR dX8_item_15 ?_
        refine r_bipush hR (nI 8) (by decide) dX8_item_16 ?_
        refine r_cv1v hR kv_X8_181 (by decide) (t_X8_passes h hL (by decide) (by decide)) (by first | decide | assumption | (simp only [gcnt_4, gcnt_1, gcnt_2, gcnt_3, gcnt_12, gcnt_13, gcnt_16]; omega)) rfl rfl (Nat.le_of_ble_eq_true rfl) dX8_item_18 ?_
        rw [bI_f (show ¬ (0 = 0 ∧ L.1 = 8) by omega), if_neg (show ¬ (0 = 0 ∧ L.1 = 8) by omega)]
        refine r_if_eq hR 31 dX8_item_21 (by decide) (fun c21 => ?_) (fun c21 => absurd rfl c21)
        refine r_aload0 hR dX8_item_31 ?_
        refine r_get hR (by first | decide | assumption | (simp only [gcnt_4, gcnt_1, gcnt_2, gcnt_3, gcnt_12, gcnt_13, gcnt_16]; omega)) fl_X8_168 rfl rfl dX8_item_32 ?_
        try simp only [rM_9, rM_10, rM_11, rM_12, rM_13]
        refine r_bipush hR (nI 9) (by decide) dX8_item_35 ?_
        refine r_icmp_eq hR 49 dX8_item_37 (by decide) (fun c37 => ?_) (fun c37 => ?_)
        · try simp (disch := omega) only [nI_ltI, nI_leI, nI_eq, bI_0, Decidable.not_not, lc_lt, lc_gt, lc_ge, lc_le, lc_eq, i64_toInt] at c37
          try simp (disch := omega) only [cv_lt, cv_le, cv_eq, nI_toInt, cv_0] at c37
          first
          | omega
          | refine r_aload0 hR dX8_item_49 ?_
            refine r_get hR (by first | decide | assumption | (simp only [gcnt_4, gcnt_1, gcnt_2, gcnt_3, gcnt_12, gcnt_13, gcnt_16]; omega)) fl_X8_168 rfl rfl dX8_item_50 ?_
            try simp only [rM_9, rM_10, rM_11, rM_12, rM_13]
            refine r_bipush hR (nI 9) (by decide) dX8_item_53 ?_
            refine r_icmp_ne hR 62 dX8_item_55 (by decide) (fun c55 => ?_) (fun c55 => ?_)
            · try simp (disch := omega) only [nI_ltI, nI_leI, nI_eq, bI_0, Decidable.not_not, lc_lt, lc_gt, lc_ge, lc_le, lc_eq, i64_toInt] at c55
              try simp (disch := omega) only [cv_lt, cv_le, cv_eq, nI_toInt, cv_0] at c55
              first
              | omega
              | refine r_iconst hR (nI 0) (by decide) dX8_item_62 ?_
                refine r_istore1 hR (fun _ h => by first | (cases h; rfl) | exact absurd h (by simp)) dX8_item_63 ?_
                refine r_aload0 hR dX8_item_64 ?_
                refine r_cv0u hR kv_X8_178 (by decide) (t_X8_reads (rM_tap h) (rM_11 _ _ _) b3) (by first | decide | assumption | (simp only [gcnt_4, gcnt_1, gcnt_2, gcnt_3, gcnt_12, gcnt_13, gcnt_16]; omega)) rfl rfl (Nat.le_of_ble_eq_true rfl) dX8_item_65 ?_
                rw [rM_lx, hL1e]
                exact J68
            · try simp (disch := omega) only [nI_ltI, nI_leI, nI_eq, bI_0, Decidable.not_not, lc_lt, lc_gt, lc_ge, lc_le, lc_eq, i64_toInt] at c55
              try simp (disch := omega) only [cv_lt, cv_le, cv_eq, nI_toInt, cv_0] at c55
              first
              | omega
              | refine r_iconst hR (nI 1) (by decide) dX8_item_58 ?_
                refine r_goto hR 63 dX8_item_59 (by decide) ?_
                refine r_istore1 hR (fun _ h => by first | (cases h; rfl) | exact absurd h (by simp)) dX8_item_63 ?_
                refine r_aload0 hR dX8_item_64 ?_
                refine r_cv0u hR kv_X8_178 (by decide) (t_X8_reads (rM_tap h) (rM_11 _ _ _) b3) (by first | decide | assumption | (simp only [gcnt_4, gcnt_1, gcnt_2, gcnt_3, gcnt_12, gcnt_13, gcnt_16]; omega)) rfl rfl (Nat.le_of_ble_eq_true rfl) dX8_item_65 ?_
                rw [rM_lx, hL1e]
                exact J68
        · try simp (disch := omega) only [nI_ltI, nI_leI, nI_eq, bI_0, Decidable.not_not, lc_lt, lc_gt, lc_ge, lc_le, lc_eq, i64_toInt] at c37
          try simp (disch := omega) only [cv_lt, cv_le, cv_eq, nI_toInt, cv_0] at c37
          first
          | omega
          | refine r_aload0 hR dX8_item_40 ?_
            refine r_get hR (by first | decide | assumption | (simp only [gcnt_4, gcnt_1, gcnt_2, gcnt_3, gcnt_12, gcnt_13, gcnt_16]; omega)) fl_X8_168 rfl rfl dX8_item_41 ?_
            try simp only [rM_9, rM_10, rM_11, rM_12, rM_13]
            refine r_bipush hR (nI 10) (by decide) dX8_item_44 ?_
            refine r_icmp_ne hR 92 dX8_item_46 (by decide) (fun c46 => ?_) (fun c46 => ?_)
            · try simp (disch := omega) only [nI_ltI, nI_leI, nI_eq, bI_0, Decidable.not_not, lc_lt, lc_gt, lc_ge, lc_le, lc_eq, i64_toInt] at c46
              try simp (disch := omega) only [cv_lt, cv_le, cv_eq, nI_toInt, cv_0] at c46
              first
              | omega
              | omega
            · try simp (disch := omega) only [nI_ltI, nI_leI, nI_eq, bI_0, Decidable.not_not, lc_lt, lc_gt, lc_ge, lc_le, lc_eq, i64_toInt] at c46
              try simp (disch := omega) only [cv_lt, cv_le, cv_eq, nI_toInt, cv_0] at c46
              first
              | omega
              | refine r_aload0 hR dX8_item_49 ?_
                refine r_get hR (by first | decide | assumption | (simp only [gcnt_4, gcnt_1, gcnt_2, gcnt_3, gcnt_12, gcnt_13, gcnt_16]; omega)) fl_X8_168 rfl rfl dX8_item_50 ?_
                try simp only [rM_9, rM_10, rM_11, rM_12, rM_13]
                refine r_bipush hR (nI 9) (by decide) dX8_item_53 ?_
                refine r_icmp_ne hR 62 dX8_item_55 (by decide) (fun c55 => ?_) (fun c55 => ?_)
                · try simp (disch := omega) only [nI_ltI, nI_leI, nI_eq, bI_0, Decidable.not_not, lc_lt, lc_gt, lc_ge, lc_le, lc_eq, i64_toInt] at c55
                  try simp (disch := omega) only [cv_lt, cv_le, cv_eq, nI_toInt, cv_0] at c55
                  first
                  | omega
                  | refine r_iconst hR (nI 0) (by decide) dX8_item_62 ?_
                    refine r_istore1 hR (fun _ h => by first | (cases h; rfl) | exact absurd h (by simp)) dX8_item_63 ?_
                    refine r_aload0 hR dX8_item_64 ?_
                    refine r_cv0u hR kv_X8_178 (by decide) (t_X8_reads (rM_tap h) (rM_11 _ _ _) b3) (by first | decide | assumption | (simp only [gcnt_4, gcnt_1, gcnt_2, gcnt_3, gcnt_12, gcnt_13, gcnt_16]; omega)) rfl rfl (Nat.le_of_ble_eq_true rfl) dX8_item_65 ?_
                    rw [rM_lx, hL1e]
                    exact J68
                · try simp (disch := omega) only [nI_ltI, nI_leI, nI_eq, bI_0, Decidable.not_not, lc_lt, lc_gt, lc_ge, lc_le, lc_eq, i64_toInt] at c55
                  try simp (disch := omega) only [cv_lt, cv_le, cv_eq, nI_toInt, cv_0] at c55
                  first
                  | omega
                  | refine r_iconst hR (nI 1) (by decide) dX8_item_58 ?_
                    refine r_goto hR 63 dX8_item_59 (by decide) ?_
                    refine r_istore1 hR (fun _ h => by first | (cases h; rfl) | exact absurd h (by simp)) dX8_item_63 ?_
                    refine r_aload0 hR dX8_item_64 ?_
                    refine r_cv0u hR kv_X8_178 (by decide) (t_X8_reads (rM_tap h) (rM_11 _ _ _) b3) (by first | decide | assumption | (simp only [gcnt_4, gcnt_1, gcnt_2, gcnt_3, gcnt_12, gcnt_13, gcnt_16]; omega)) rfl rfl (Nat.le_of_ble_eq_true rfl) dX8_item_65 ?_
                    rw [rM_lx, hL1e]
                    exact J68
    · try simp (disch := omega) only [nI_ltI, nI_leI, nI_eq, bI_0, Decidable.not_not, lc_lt, lc_gt, lc_ge, lc_le, lc_eq, i64_toInt] at c5
      try simp (disch := omega) only [cv_lt, cv_le, cv_eq, nI_toInt, cv_0] at c5
      first
      | omega
      | omega
  by_cases k11 : L.1 = 11
  · have e : iteM T l S L = forM T l S L1 := by
      unfold iteM
      rw [if_neg k5, if_neg k8, if_neg (by omega), if_pos k11, hL1e]
    by_cases hq : isNum L1 9
    · have e2 : forM T l S L1 = (0, va_up S 1 L1.2.2.2, lexN T l L1.2.2.1) := by unfold forM; rw [if_pos hq]
      refine r_aload0 hR dX8_item_0 ?_
      refine r_get hR (by first | decide | assumption | (simp only [gcnt_4, gcnt_1, gcnt_2, gcnt_3, gcnt_12, gcnt_13, gcnt_16]; omega)) fl_X8_168 rfl rfl dX8_item_1 ?_
      try simp only [rM_9, rM_10, rM_11, rM_12, rM_13]
      refine r_iconst hR (nI 5) (by decide) dX8_item_4 ?_
      refine r_icmp_gt hR 15 dX8_item_5 (by decide) (fun c5 => ?_) (fun c5 => ?_)
      · try simp (disch := omega) only [nI_ltI, nI_leI, nI_eq, bI_0, Decidable.not_not, lc_lt, lc_gt, lc_ge, lc_le, lc_eq, i64_toInt] at c5
        try simp (disch := omega) only [cv_lt, cv_le, cv_eq, nI_toInt, cv_0] at c5
        first
        | omega
        | refine r_aload0 hR dX8_item_15 ?_
          refine r_bipush hR (nI 8) (by decide) dX8_item_16 ?_
          refine r_cv1v hR kv_X8_181 (by decide) (t_X8_passes h hL (by decide) (by decide)) (by first | decide | assumption | (simp only [gcnt_4, gcnt_1, gcnt_2, gcnt_3, gcnt_12, gcnt_13, gcnt_16]; omega)) rfl rfl (Nat.le_of_ble_eq_true rfl) dX8_item_18 ?_
          rw [bI_f (show ¬ (0 = 0 ∧ L.1 = 8) by omega), if_neg (show ¬ (0 = 0 ∧ L.1 = 8) by omega)]
          refine r_if_eq hR 31 dX8_item_21 (by decide) (fun c21 => ?_) (fun c21 => absurd rfl c21)
          refine r_aload0 hR dX8_item_31 ?_
          refine r_get hR (by first | decide | assumption | (simp only [gcnt_4, gcnt_1, gcnt_2, gcnt_3, gcnt_12, gcnt_13, gcnt_16]; omega)) fl_X8_168 rfl rfl dX8_item_32 ?_
          try simp only [rM_9, rM_10, rM_11, rM_12, rM_13]
          refine r_bipush hR (nI 9) (by decide) dX8_item_35 ?_
          refine r_icmp_eq hR 49 dX8_item_37 (by decide) (fun c37 => ?_) (fun c37 => ?_)
          · try simp (disch := omega) only [nI_ltI, nI_leI, nI_eq, bI_0, Decidable.not_not, lc_lt, lc_gt, lc_ge, lc_le, lc_eq, i64_toInt] at c37
            try simp (disch := omega) only [cv_lt, cv_le, cv_eq, nI_toInt, cv_0] at c37
            first
            | omega
            | omega
          · try simp (disch := omega) only [nI_ltI, nI_leI, nI_eq, bI_0, Decidable.not_not, lc_lt, lc_gt, lc_ge, lc_le, lc_eq, i64_toInt] at c37
            try simp (disch := omega) only [cv_lt, cv_le, cv_eq, nI_toInt, cv_0] at c37
            first
            | omega
            | refine r_aload0 hR dX8_item_40 ?_
              refine r_get hR (by first | decide | assumption | (simp only [gcnt_4, gcnt_1, gcnt_2, gcnt_3, gcnt_12, gcnt_13, gcnt_16]; omega)) fl_X8_168 rfl rfl dX8_item_41 ?_
              try simp only [rM_9, rM_10, rM_11, rM_12, rM_13]
              refine r_bipush hR (nI 10) (by decide) dX8_item_44 ?_
              refine r_icmp_ne hR 92 dX8_item_46 (by decide) (fun c46 => ?_) (fun c46 => ?_)
              · try simp (disch := omega) only [nI_ltI, nI_leI, nI_eq, bI_0, Decidable.not_not, lc_lt, lc_gt, lc_ge, lc_le, lc_eq, i64_toInt] at c46
                try simp (disch := omega) only [cv_lt, cv_le, cv_eq, nI_toInt, cv_0] at c46
                first
                | omega
                | refine r_aload0 hR dX8_item_92 ?_
                  refine r_bipush hR (nI 11) (by decide) dX8_item_93 ?_
                  refine r_cv1v hR kv_X8_181 (by decide) (t_X8_passes h hL (by decide) (by decide)) (by first | decide | assumption | (simp only [gcnt_4, gcnt_1, gcnt_2, gcnt_3, gcnt_12, gcnt_13, gcnt_16]; omega)) rfl rfl (Nat.le_of_ble_eq_true rfl) dX8_item_95 ?_
                  rw [bI_t (show 0 = 0 ∧ _ from ⟨rfl, k11⟩), if_pos (show 0 = 0 ∧ _ from ⟨rfl, k11⟩), hL1e]
                  refine r_if_eq hR 117 dX8_item_98 (by decide) (fun c98 => absurd c98 (by decide)) (fun c98 => ?_)
                  refine r_aload0 hR dX8_item_101 ?_
                  refine r_get hR (by first | decide | assumption | (simp only [gcnt_4, gcnt_1, gcnt_2, gcnt_3, gcnt_12, gcnt_13, gcnt_16]; omega)) fl_X8_9 rfl rfl dX8_item_102 ?_
                  try simp only [rM_9, rM_10, rM_11, rM_12, rM_13]
                  refine r_iconst hR (nI 1) (by decide) dX8_item_105 ?_
                  refine r_aload0 hR dX8_item_106 ?_
                  refine r_iconst hR (nI 0) (by decide) dX8_item_107 ?_
                  refine r_bipush hR (nI 9) (by decide) dX8_item_108 ?_
                  refine r_cv2v hR kv_X8_184 (by decide) (t_X8_number h hL1 (by decide) (by decide)) (by first | decide | assumption | (simp only [gcnt_4, gcnt_1, gcnt_2, gcnt_3, gcnt_12, gcnt_13, gcnt_16]; omega)) rfl rfl (Nat.le_of_ble_eq_true rfl) dX8_item_110 ?_
                  rw [if_pos (show 0 = 0 ∧ _ from ⟨rfl, hq⟩), if_pos (show 0 = 0 ∧ _ from ⟨rfl, hq⟩)]
                  refine r_iast hR (by first | decide | assumption | (simp only [gcnt_4, gcnt_1, gcnt_2, gcnt_3, gcnt_12, gcnt_13, gcnt_16]; omega)) (fun _ => rfl) rfl (by omega) (by decide) dX8_item_113 ?_
                  rw [rM_row, pm_up hr (by omega) (by omega)]
                  refine r_goto hR 122 dX8_item_114 (by decide) ?_
                  refine r_vret hR dX8_item_122 ?_
                  rw [e, e2]
                  exact ⟨rfl, rfl⟩
              · try simp (disch := omega) only [nI_ltI, nI_leI, nI_eq, bI_0, Decidable.not_not, lc_lt, lc_gt, lc_ge, lc_le, lc_eq, i64_toInt] at c46
                try simp (disch := omega) only [cv_lt, cv_le, cv_eq, nI_toInt, cv_0] at c46
                first
                | omega
                | omega
      · try simp (disch := omega) only [nI_ltI, nI_leI, nI_eq, bI_0, Decidable.not_not, lc_lt, lc_gt, lc_ge, lc_le, lc_eq, i64_toInt] at c5
        try simp (disch := omega) only [cv_lt, cv_le, cv_eq, nI_toInt, cv_0] at c5
        first
        | omega
        | omega
    · have e2 : forM T l S L1 = (1, va_up S 1 L1.2.2.2, L1) := by unfold forM; rw [if_neg hq]
      refine r_aload0 hR dX8_item_0 ?_
      refine r_get hR (by first | decide | assumption | (simp only [gcnt_4, gcnt_1, gcnt_2, gcnt_3, gcnt_12, gcnt_13, gcnt_16]; omega)) fl_X8_168 rfl rfl dX8_item_1 ?_
      try simp only [rM_9, rM_10, rM_11, rM_12, rM_13]
      refine r_iconst hR (nI 5) (by decide) dX8_item_4 ?_
      refine r_icmp_gt hR 15 dX8_item_5 (by decide) (fun c5 => ?_) (fun c5 => ?_)
      · try simp (disch := omega) only [nI_ltI, nI_leI, nI_eq, bI_0, Decidable.not_not, lc_lt, lc_gt, lc_ge, lc_le, lc_eq, i64_toInt] at c5
        try simp (disch := omega) only [cv_lt, cv_le, cv_eq, nI_toInt, cv_0] at c5
        first
        | omega
        | refine r_aload0 hR dX8_item_15 ?_
          refine r_bipush hR (nI 8) (by decide) dX8_item_16 ?_
          refine r_cv1v hR kv_X8_181 (by decide) (t_X8_passes h hL (by decide) (by decide)) (by first | decide | assumption | (simp only [gcnt_4, gcnt_1, gcnt_2, gcnt_3, gcnt_12, gcnt_13, gcnt_16]; omega)) rfl rfl (Nat.le_of_ble_eq_true rfl) dX8_item_18 ?_
          rw [bI_f (show ¬ (0 = 0 ∧ L.1 = 8) by omega), if_neg (show ¬ (0 = 0 ∧ L.1 = 8) by omega)]
          refine r_if_eq hR 31 dX8_item_21 (by decide) (fun c21 => ?_) (fun c21 => absurd rfl c21)
          refine r_aload0 hR dX8_item_31 ?_
          refine r_get hR (by first | decide | assumption | (simp only [gcnt_4, gcnt_1, gcnt_2, gcnt_3, gcnt_12, gcnt_13, gcnt_16]; omega)) fl_X8_168 rfl rfl dX8_item_32 ?_
          try simp only [rM_9, rM_10, rM_11, rM_12, rM_13]
          refine r_bipush hR (nI 9) (by decide) dX8_item_35 ?_
          refine r_icmp_eq hR 49 dX8_item_37 (by decide) (fun c37 => ?_) (fun c37 => ?_)
          · try simp (disch := omega) only [nI_ltI, nI_leI, nI_eq, bI_0, Decidable.not_not, lc_lt, lc_gt, lc_ge, lc_le, lc_eq, i64_toInt] at c37
            try simp (disch := omega) only [cv_lt, cv_le, cv_eq, nI_toInt, cv_0] at c37
            first
            | omega
            | omega
          · try simp (disch := omega) only [nI_ltI, nI_leI, nI_eq, bI_0, Decidable.not_not, lc_lt, lc_gt, lc_ge, lc_le, lc_eq, i64_toInt] at c37
            try simp (disch := omega) only [cv_lt, cv_le, cv_eq, nI_toInt, cv_0] at c37
            first
            | omega
            | refine r_aload0 hR dX8_item_40 ?_
              refine r_get hR (by first | decide | assumption | (simp only [gcnt_4, gcnt_1, gcnt_2, gcnt_3, gcnt_12, gcnt_13, gcnt_16]; omega)) fl_X8_168 rfl rfl dX8_item_41 ?_
              try simp only [rM_9, rM_10, rM_11, rM_12, rM_13]
              refine r_bipush hR (nI 10) (by decide) dX8_item_44 ?_
              refine r_icmp_ne hR 92 dX8_item_46 (by decide) (fun c46 => ?_) (fun c46 => ?_)
              · try simp (disch := omega) only [nI_ltI, nI_leI, nI_eq, bI_0, Decidable.not_not, lc_lt, lc_gt, lc_ge, lc_le, lc_eq, i64_toInt] at c46
                try simp (disch := omega) only [cv_lt, cv_le, cv_eq, nI_toInt, cv_0] at c46
                first
                | omega
                | refine r_aload0 hR dX8_item_92 ?_
                  refine r_bipush hR (nI 11) (by decide) dX8_item_93 ?_
                  refine r_cv1v hR kv_X8_181 (by decide) (t_X8_passes h hL (by decide) (by decide)) (by first | decide | assumption | (simp only [gcnt_4, gcnt_1, gcnt_2, gcnt_3, gcnt_12, gcnt_13, gcnt_16]; omega)) rfl rfl (Nat.le_of_ble_eq_true rfl) dX8_item_95 ?_
                  rw [bI_t (show 0 = 0 ∧ _ from ⟨rfl, k11⟩), if_pos (show 0 = 0 ∧ _ from ⟨rfl, k11⟩), hL1e]
                  refine r_if_eq hR 117 dX8_item_98 (by decide) (fun c98 => absurd c98 (by decide)) (fun c98 => ?_)
                  refine r_aload0 hR dX8_item_101 ?_
                  refine r_get hR (by first | decide | assumption | (simp only [gcnt_4, gcnt_1, gcnt_2, gcnt_3, gcnt_12, gcnt_13, gcnt_16]; omega)) fl_X8_9 rfl rfl dX8_item_102 ?_
                  try simp only [rM_9, rM_10, rM_11, rM_12, rM_13]
                  refine r_iconst hR (nI 1) (by decide) dX8_item_105 ?_
                  refine r_aload0 hR dX8_item_106 ?_
                  refine r_iconst hR (nI 0) (by decide) dX8_item_107 ?_
                  refine r_bipush hR (nI 9) (by decide) dX8_item_108 ?_
                  refine r_cv2v hR kv_X8_184 (by decide) (t_X8_number h hL1 (by decide) (by decide)) (by first | decide | assumption | (simp only [gcnt_4, gcnt_1, gcnt_2, gcnt_3, gcnt_12, gcnt_13, gcnt_16]; omega)) rfl rfl (Nat.le_of_ble_eq_true rfl) dX8_item_110 ?_
                  rw [if_neg (fun z => hq z.2), if_neg (fun z => hq z.2)]
                  refine r_iast hR (by first | decide | assumption | (simp only [gcnt_4, gcnt_1, gcnt_2, gcnt_3, gcnt_12, gcnt_13, gcnt_16]; omega)) (fun _ => rfl) rfl (by omega) (by decide) dX8_item_113 ?_
                  rw [rM_row, pm_up hr (by omega) (by omega)]
                  refine r_goto hR 122 dX8_item_114 (by decide) ?_
                  refine r_vret hR dX8_item_122 ?_
                  rw [e, e2]
                  exact ⟨rfl, rfl⟩
              · try simp (disch := omega) only [nI_ltI, nI_leI, nI_eq, bI_0, Decidable.not_not, lc_lt, lc_gt, lc_ge, lc_le, lc_eq, i64_toInt] at c46
                try simp (disch := omega) only [cv_lt, cv_le, cv_eq, nI_toInt, cv_0] at c46
                first
                | omega
                | omega
      · try simp (disch := omega) only [nI_ltI, nI_leI, nI_eq, bI_0, Decidable.not_not, lc_lt, lc_gt, lc_ge, lc_le, lc_eq, i64_toInt] at c5
        try simp (disch := omega) only [cv_lt, cv_le, cv_eq, nI_toInt, cv_0] at c5
        first
        | omega
        | omega
  have e : iteM T l S L = (1, S, L) := by
    unfold iteM
    rw [if_neg k5, if_neg k8, if_neg (by omega), if_neg k11]
  refine r_aload0 hR dX8_item_0 ?_
  refine r_get hR (by first | decide | assumption | (simp only [gcnt_4, gcnt_1, gcnt_2, gcnt_3, gcnt_12, gcnt_13, gcnt_16]; omega)) fl_X8_168 rfl rfl dX8_item_1 ?_
  try simp only [rM_9, rM_10, rM_11, rM_12, rM_13]
  refine r_iconst hR (nI 5) (by decide) dX8_item_4 ?_
  refine r_icmp_gt hR 15 dX8_item_5 (by decide) (fun c5 => ?_) (fun c5 => ?_)
  · try simp (disch := omega) only [nI_ltI, nI_leI, nI_eq, bI_0, Decidable.not_not, lc_lt, lc_gt, lc_ge, lc_le, lc_eq, i64_toInt] at c5
    try simp (disch := omega) only [cv_lt, cv_le, cv_eq, nI_toInt, cv_0] at c5
    first
    | omega
    | refine r_aload0 hR dX8_item_15 ?_
      refine r_bipush hR (nI 8) (by decide) dX8_item_16 ?_
      refine r_cv1v hR kv_X8_181 (by decide) (t_X8_passes h hL (by decide) (by decide)) (by first | decide | assumption | (simp only [gcnt_4, gcnt_1, gcnt_2, gcnt_3, gcnt_12, gcnt_13, gcnt_16]; omega)) rfl rfl (Nat.le_of_ble_eq_true rfl) dX8_item_18 ?_
      rw [bI_f (show ¬ (0 = 0 ∧ L.1 = 8) by omega), if_neg (show ¬ (0 = 0 ∧ L.1 = 8) by omega)]
      refine r_if_eq hR 31 dX8_item_21 (by decide) (fun c21 => ?_) (fun c21 => absurd rfl c21)
      refine r_aload0 hR dX8_item_31 ?_
      refine r_get hR (by first | decide | assumption | (simp only [gcnt_4, gcnt_1, gcnt_2, gcnt_3, gcnt_12, gcnt_13, gcnt_16]; omega)) fl_X8_168 rfl rfl dX8_item_32 ?_
      try simp only [rM_9, rM_10, rM_11, rM_12, rM_13]
      refine r_bipush hR (nI 9) (by decide) dX8_item_35 ?_
      refine r_icmp_eq hR 49 dX8_item_37 (by decide) (fun c37 => ?_) (fun c37 => ?_)
      · try simp (disch := omega) only [nI_ltI, nI_leI, nI_eq, bI_0, Decidable.not_not, lc_lt, lc_gt, lc_ge, lc_le, lc_eq, i64_toInt] at c37
        try simp (disch := omega) only [cv_lt, cv_le, cv_eq, nI_toInt, cv_0] at c37
        first
        | omega
        | omega
      · try simp (disch := omega) only [nI_ltI, nI_leI, nI_eq, bI_0, Decidable.not_not, lc_lt, lc_gt, lc_ge, lc_le, lc_eq, i64_toInt] at c37
        try simp (disch := omega) only [cv_lt, cv_le, cv_eq, nI_toInt, cv_0] at c37
        first
        | omega
        | refine r_aload0 hR dX8_item_40 ?_
          refine r_get hR (by first | decide | assumption | (simp only [gcnt_4, gcnt_1, gcnt_2, gcnt_3, gcnt_12, gcnt_13, gcnt_16]; omega)) fl_X8_168 rfl rfl dX8_item_41 ?_
          try simp only [rM_9, rM_10, rM_11, rM_12, rM_13]
          refine r_bipush hR (nI 10) (by decide) dX8_item_44 ?_
          refine r_icmp_ne hR 92 dX8_item_46 (by decide) (fun c46 => ?_) (fun c46 => ?_)
          · try simp (disch := omega) only [nI_ltI, nI_leI, nI_eq, bI_0, Decidable.not_not, lc_lt, lc_gt, lc_ge, lc_le, lc_eq, i64_toInt] at c46
            try simp (disch := omega) only [cv_lt, cv_le, cv_eq, nI_toInt, cv_0] at c46
            first
            | omega
            | refine r_aload0 hR dX8_item_92 ?_
              refine r_bipush hR (nI 11) (by decide) dX8_item_93 ?_
              refine r_cv1v hR kv_X8_181 (by decide) (t_X8_passes h hL (by decide) (by decide)) (by first | decide | assumption | (simp only [gcnt_4, gcnt_1, gcnt_2, gcnt_3, gcnt_12, gcnt_13, gcnt_16]; omega)) rfl rfl (Nat.le_of_ble_eq_true rfl) dX8_item_95 ?_
              rw [bI_f (show ¬ (0 = 0 ∧ L.1 = 11) by omega), if_neg (show ¬ (0 = 0 ∧ L.1 = 11) by omega)]
              refine r_if_eq hR 117 dX8_item_98 (by decide) (fun c98 => ?_) (fun c98 => absurd rfl c98)
              refine r_aload0 hR dX8_item_117 ?_
              refine r_iconst hR (nI 1) (by decide) dX8_item_118 ?_
              refine r_puti hR (by first | decide | assumption | (simp only [gcnt_4, gcnt_1, gcnt_2, gcnt_3, gcnt_12, gcnt_13, gcnt_16]; omega)) fp_X8_174 rfl rfl (Nat.le_of_ble_eq_true rfl) rfl rfl dX8_item_119 ?_
              rw [rM_bad]
              refine r_vret hR dX8_item_122 ?_
              rw [e]
              exact ⟨rfl, by rw [pm_id hr]⟩
          · try simp (disch := omega) only [nI_ltI, nI_leI, nI_eq, bI_0, Decidable.not_not, lc_lt, lc_gt, lc_ge, lc_le, lc_eq, i64_toInt] at c46
            try simp (disch := omega) only [cv_lt, cv_le, cv_eq, nI_toInt, cv_0] at c46
            first
            | omega
            | omega
  · try simp (disch := omega) only [nI_ltI, nI_leI, nI_eq, bI_0, Decidable.not_not, lc_lt, lc_gt, lc_ge, lc_le, lc_eq, i64_toInt] at c5
    try simp (disch := omega) only [cv_lt, cv_le, cv_eq, nI_toInt, cv_0] at c5
    first
    | omega
    | omega


