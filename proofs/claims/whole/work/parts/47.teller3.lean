def rotC (T : Nat → Nat) (l : Nat) : Nat → Nat → (Nat → Nat) → Lx → Nat × (Nat → Nat) × Lx
  | 0, _, S, L => (0, S, L)
  | n + 1, d, S, L => if 0 < d ∧ ¬ L.1 = 20 then (0, S, L) else if isNum L 8 then rotC T l n (d + 1) (va_up S (4 + d) L.2.2.2) (lexN T l L.2.2.1) else (1, S, L)
theorem rotC_M (T : Nat → Nat) (l n : Nat) : ∀ (d : Nat) (S : Nat → Nat) (L : Lx), (rotC T l n d S L).1 = (rotM T l n d S L).1 ∧ (rotC T l n d S L).2.2 = (rotM T l n d S L).2.2 ∧ ((rotM T l n d S L).1 = 0 → (rotC T l n d S L).2.1 = (rotM T l n d S L).2.1) ∧ (rotC T l n d S L).2.1 3 = S 3 := by
  induction n with
  | zero => intro d S L; exact ⟨rfl, rfl, fun _ => rfl, rfl⟩
  | succ n ih =>
    intro d S L
    unfold rotC rotM
    by_cases q : 0 < d ∧ ¬ L.1 = 20
    · rw [if_pos q, if_pos q]; exact ⟨rfl, rfl, fun _ => rfl, rfl⟩
    · rw [if_neg q, if_neg q]
      by_cases q2 : isNum L 8
      · rw [if_pos q2, if_pos q2]
        have z := ih (d + 1) (va_up S (4 + d) L.2.2.2) (lexN T l L.2.2.1)
        exact ⟨z.1, z.2.1, z.2.2.1, by rw [z.2.2.2, vu_o (by omega)]⟩
      · rw [if_neg q2, if_neg q2]
        exact ⟨rfl, rfl, fun e => absurd e (by show ¬ (1 : Nat) = 0; decide), rfl⟩
theorem lc_pp (M : gM) (T : Nat → Nat) (l : Nat) (S S' : Nat → Nat) (L : Lx) (h : S 3 = S' 3) : lcM (putSea (putSea M 1 S) 1 S') T l L = lcM (putSea M 1 S') T l L := by
  rw [show putSea (putSea M 1 S) 1 S' = putSea M 1 S' from putSn_put M 1 S S' (by omega)]
set_option maxHeartbeats 4000000 in
set_option maxRecDepth 100000 in
theorem t_X4_tellRota {G : gG} {M : gM} {T : Nat → Nat} {l : Nat} {L : Lx} (h : ctP M T l) (hL : isLx T l L) {S : Nat → Nat} (hS : seaP M 1 S) (w2 : S 2 < 256) : Cf G mX4_tellRota 3 [.ref (ad G 10 0), .ref (ad G 1 1)] (lcM M T l L) (some (.int (bI ((rotC T l 7 0 S L).1 = 0)))) (lcM (putSea M 1 (rotC T l 7 0 S L).2.1) T l (rotC T l 7 0 S L).2.2) := by
  have hT := h.2.2.2
  have hB := isLx_B hT hL
  obtain ⟨b1, b2, b3, b4, b5, b6⟩ := id hB
  obtain ⟨k2, k0, k3⟩ := lx_k hL
  have kl := kC_le T l L.2.1
  have l2 := h.2.2.1
  refine Ct.of (by decide +kernel) (k := 2) (ls0 := [some (.ref (ad G 10 0)), some (.ref (ad G 1 1)), none, none]) rfl rfl (fun _ _ => trivial) ?_
  intro P hR
  have L0 : ∀ (j i : Nat) (N : gM) (S' : Nat → Nat) (L' : Lx) (x3 : Option Value), i + j = 7 → ctP N T l → isLx T l L' → seaP N 1 S' → lcM (putSea N 1 (rotC T l j i S' L').2.1) T l (rotC T l j i S' L').2.2 = (lcM (putSea M 1 (rotC T l 7 0 S L).2.1) T l (rotC T l 7 0 S L).2.2) → (rotC T l j i S' L').1 = (rotC T l 7 0 S L).1 → P 2 [some (.ref (ad G 10 0)), some (.ref (ad G 1 1)), some (.int (nI i)), x3] [] (lcM N T l L') := by
    intro j
    induction j with
    | zero =>
      intro i N S' L' x3 hij htN hLN hsN hF h1
      have hT := htN.2.2.2
      have hB := isLx_B hT hLN
      obtain ⟨b1, b2, b3, b4, b5, b6⟩ := id hB
      obtain ⟨k2, k0, k3⟩ := lx_k hLN
      have kl := kC_le T l L'.2.1
      have hm1 : (-1 : Int32).toInt = -1 := by decide
      have hvt := nI_toInt (n := L'.2.2.2) (by omega)
      refine r_iload2 hR dX4_tellRota_2 ?_
      refine r_bipush hR (nI 7) (by decide) dX4_tellRota_3 ?_
      refine r_icmp_ge hR 52 dX4_tellRota_5 (by decide) (fun c5 => ?_) (fun c5 => ?_)
      · try simp (disch := omega) only [nI_ltI, nI_leI, nI_eq, bI_0, Decidable.not_not, lc_lt, lc_gt, lc_ge, lc_le, lc_eq, i64_toInt] at c5
        try simp (disch := omega) only [cv_lt, cv_le, cv_eq, nI_toInt, cv_0] at c5
        first
        | omega
        | refine r_iconst hR (nI 1) (by decide) dX4_tellRota_52 ?_
          refine r_zret hR dX4_tellRota_53 rfl ?_
          have h0 : (rotC T l 7 0 S L).1 = 0 := h1.symm
          refine ⟨by rw [bI_t h0], ?_⟩
          rw [← hF]
          show _ = lcM (putSea N 1 S') T l L'
          rw [putSn_id hsN]
      · try simp (disch := omega) only [nI_ltI, nI_leI, nI_eq, bI_0, Decidable.not_not, lc_lt, lc_gt, lc_ge, lc_le, lc_eq, i64_toInt] at c5
        try simp (disch := omega) only [cv_lt, cv_le, cv_eq, nI_toInt, cv_0] at c5
        first
        | omega
        | refine r_iload2 hR dX4_tellRota_8 ?_
          refine r_if_le hR 25 dX4_tellRota_9 (by decide) (fun c9 => ?_) (fun c9 => ?_)
          · try simp (disch := omega) only [nI_ltI, nI_leI, nI_eq, bI_0, Decidable.not_not, lc_lt, lc_gt, lc_ge, lc_le, lc_eq, i64_toInt] at c9
            try simp (disch := omega) only [cv_lt, cv_le, cv_eq, nI_toInt, cv_0] at c9
            first
            | omega
            | omega
          · try simp (disch := omega) only [nI_ltI, nI_leI, nI_eq, bI_0, Decidable.not_not, lc_lt, lc_gt, lc_ge, lc_le, lc_eq, i64_toInt] at c9
            try simp (disch := omega) only [cv_lt, cv_le, cv_eq, nI_toInt, cv_0] at c9
            first
            | omega
            | refine r_aload0 hR dX4_tellRota_12 ?_
              refine r_get hR (by first | decide | assumption | (simp only [gcnt_4, gcnt_1, gcnt_2, gcnt_3, gcnt_12, gcnt_13, gcnt_16]; omega)) fl_X4_9 rfl rfl dX4_tellRota_13 ?_
              try simp only [lc_2, lc_3, lc_4]
              refine r_get hR (by first | decide | assumption | (simp only [gcnt_4, gcnt_1, gcnt_2, gcnt_3, gcnt_12, gcnt_13, gcnt_16]; omega)) fl_X4_28 rfl rfl dX4_tellRota_16 ?_
              try simp only [lc_2, lc_3, lc_4]
              refine r_iconst hR (nI 2) (by decide) dX4_tellRota_19 ?_
              refine r_icmp_eq hR 25 dX4_tellRota_20 (by decide) (fun c20 => ?_) (fun c20 => ?_)
              · try simp (disch := omega) only [nI_ltI, nI_leI, nI_eq, bI_0, Decidable.not_not, lc_lt, lc_gt, lc_ge, lc_le, lc_eq, i64_toInt] at c20
                try simp (disch := omega) only [cv_lt, cv_le, cv_eq, nI_toInt, cv_0] at c20
                first
                | omega
                | omega
              · try simp (disch := omega) only [nI_ltI, nI_leI, nI_eq, bI_0, Decidable.not_not, lc_lt, lc_gt, lc_ge, lc_le, lc_eq, i64_toInt] at c20
                try simp (disch := omega) only [cv_lt, cv_le, cv_eq, nI_toInt, cv_0] at c20
                first
                | omega
                | refine r_iconst hR (nI 1) (by decide) dX4_tellRota_23 ?_
                  refine r_zret hR dX4_tellRota_24 rfl ?_
                  omega
    | succ j ih =>
      intro i N S' L' x3 hij htN hLN hsN hF h1
      have hT := htN.2.2.2
      have hB := isLx_B hT hLN
      obtain ⟨b1, b2, b3, b4, b5, b6⟩ := id hB
      obtain ⟨k2, k0, k3⟩ := lx_k hLN
      have kl := kC_le T l L'.2.1
      have hm1 : (-1 : Int32).toInt = -1 := by decide
      have hvt := nI_toInt (n := L'.2.2.2) (by omega)
      have J25 : (i = 0 ∨ L'.1 = 20) → P 25 [some (.ref (ad G 10 0)), some (.ref (ad G 1 1)), some (.int (nI i)), x3] [] (lcM N T l L') := by
        intro h0
        by_cases hq : isNum L' 8
        · have hq2 := hq.2
          have es : (rotC T l (j + 1) i S' L') = (rotC T l j (i + 1) (va_up S' (4 + i) L'.2.2.2) (lexN T l L'.2.2.1)) := by
            conv => lhs; unfold rotC
            rw [if_neg (by omega), if_pos hq]
          refine r_aload0 hR dX4_tellRota_25 ?_
          refine r_bipush hR (nI 8) (by decide) dX4_tellRota_26 ?_
          refine r_cv1v hR kv_X4_72 (by decide) (t_X4_takenNumber htN hLN (by decide)) (by first | decide | assumption | (simp only [gcnt_4, gcnt_1, gcnt_2, gcnt_3, gcnt_12, gcnt_13, gcnt_16]; omega)) rfl rfl (Nat.le_of_ble_eq_true rfl) dX4_tellRota_28 ?_
          rw [if_pos hq, if_pos hq]
          refine r_istore3 hR (fun _ h => by first | (cases h; rfl) | exact absurd h (by simp)) dX4_tellRota_31 ?_
          refine r_iload3 hR dX4_tellRota_32 ?_
          refine r_iconst hR (-1) (by decide) dX4_tellRota_33 ?_
          refine r_icmp_ne hR 39 dX4_tellRota_34 (by decide) (fun c34 => ?_) (fun c34 => ?_)
          · try simp (disch := omega) only [nI_ltI, nI_leI, nI_eq, bI_0, Decidable.not_not, lc_lt, lc_gt, lc_ge, lc_le, lc_eq, i64_toInt] at c34
            try simp (disch := omega) only [cv_lt, cv_le, cv_eq, nI_toInt, cv_0] at c34
            first
            | omega
            | refine r_aload1 hR dX4_tellRota_39 ?_
              refine r_get hR (by first | decide | assumption | (simp only [gcnt_4, gcnt_1, gcnt_2, gcnt_3, gcnt_12, gcnt_13, gcnt_16]; omega)) fl_X4_82 rfl rfl dX4_tellRota_40 ?_
              try simp only [lc_2, lc_3, lc_4]
              refine r_iload2 hR dX4_tellRota_43 ?_
              refine r_iload3 hR dX4_tellRota_44 ?_
              refine r_iast hR (by first | decide | assumption | (simp only [gcnt_4, gcnt_1, gcnt_2, gcnt_3, gcnt_12, gcnt_13, gcnt_16]; omega)) (fun _ => rfl) rfl (by omega) (by decide) dX4_tellRota_45 ?_
              rw [sea_o (lc_sea hsN) (by omega), lc_put]
              refine r_iinc2 hR (nI 1) (by decide) (fun _ h => by first | (cases h; rfl) | exact absurd h (by simp)) dX4_tellRota_46 ?_
              try rw [nI_add]
              refine r_goto hR 2 dX4_tellRota_49 (by decide) ?_
              refine ih (i + 1) (putSea N 1 (va_up S' (4 + i) L'.2.2.2)) (va_up S' (4 + i) L'.2.2.2) (lexN T l L'.2.2.1) _ (by omega) (put_ct htN) (isLx_n hT hLN) (putSea_P N 1 _) ?_ ?_
              · rw [lc_pp N T l _ _ _ (by rw [(rotC_M T l j (i + 1) _ _).2.2.2]), ← hF, es]
              · rw [← h1, es]
          · try simp (disch := omega) only [nI_ltI, nI_leI, nI_eq, bI_0, Decidable.not_not, lc_lt, lc_gt, lc_ge, lc_le, lc_eq, i64_toInt] at c34
            try simp (disch := omega) only [cv_lt, cv_le, cv_eq, nI_toInt, cv_0] at c34
            first
            | omega
            | refine r_iconst hR (nI 0) (by decide) dX4_tellRota_37 ?_
              refine r_zret hR dX4_tellRota_38 rfl ?_
              omega
        · have es : (rotC T l (j + 1) i S' L') = (1, S', L') := by
            unfold rotC
            rw [if_neg (by omega), if_neg hq]
          refine r_aload0 hR dX4_tellRota_25 ?_
          refine r_bipush hR (nI 8) (by decide) dX4_tellRota_26 ?_
          refine r_cv1v hR kv_X4_72 (by decide) (t_X4_takenNumber htN hLN (by decide)) (by first | decide | assumption | (simp only [gcnt_4, gcnt_1, gcnt_2, gcnt_3, gcnt_12, gcnt_13, gcnt_16]; omega)) rfl rfl (Nat.le_of_ble_eq_true rfl) dX4_tellRota_28 ?_
          rw [if_neg hq, if_neg hq]
          refine r_istore3 hR (fun _ h => by first | (cases h; rfl) | exact absurd h (by simp)) dX4_tellRota_31 ?_
          refine r_iload3 hR dX4_tellRota_32 ?_
          refine r_iconst hR (-1) (by decide) dX4_tellRota_33 ?_
          refine r_icmp_ne hR 39 dX4_tellRota_34 (by decide) (fun c34 => absurd c34 (fun q => q rfl)) (fun c34 => ?_)
          refine r_iconst hR (nI 0) (by decide) dX4_tellRota_37 ?_
          refine r_zret hR dX4_tellRota_38 rfl ?_
          have h0 : ¬ (rotC T l 7 0 S L).1 = 0 := by rw [← h1, es]; show ¬ (1 : Nat) = 0; decide
          refine ⟨by rw [bI_f h0], ?_⟩
          rw [← hF, es, putSn_id hsN]
      refine r_iload2 hR dX4_tellRota_2 ?_
      refine r_bipush hR (nI 7) (by decide) dX4_tellRota_3 ?_
      refine r_icmp_ge hR 52 dX4_tellRota_5 (by decide) (fun c5 => ?_) (fun c5 => ?_)
      · try simp (disch := omega) only [nI_ltI, nI_leI, nI_eq, bI_0, Decidable.not_not, lc_lt, lc_gt, lc_ge, lc_le, lc_eq, i64_toInt] at c5
        try simp (disch := omega) only [cv_lt, cv_le, cv_eq, nI_toInt, cv_0] at c5
        first
        | omega
        | refine r_iconst hR (nI 1) (by decide) dX4_tellRota_52 ?_
          refine r_zret hR dX4_tellRota_53 rfl ?_
          omega
      · try simp (disch := omega) only [nI_ltI, nI_leI, nI_eq, bI_0, Decidable.not_not, lc_lt, lc_gt, lc_ge, lc_le, lc_eq, i64_toInt] at c5
        try simp (disch := omega) only [cv_lt, cv_le, cv_eq, nI_toInt, cv_0] at c5
        first
        | omega
        | refine r_iload2 hR dX4_tellRota_8 ?_
          refine r_if_le hR 25 dX4_tellRota_9 (by decide) (fun c9 => ?_) (fun c9 => ?_)
          · try simp (disch := omega) only [nI_ltI, nI_leI, nI_eq, bI_0, Decidable.not_not, lc_lt, lc_gt, lc_ge, lc_le, lc_eq, i64_toInt] at c9
            try simp (disch := omega) only [cv_lt, cv_le, cv_eq, nI_toInt, cv_0] at c9
            first
            | omega
            | exact J25 (by omega)
          · try simp (disch := omega) only [nI_ltI, nI_leI, nI_eq, bI_0, Decidable.not_not, lc_lt, lc_gt, lc_ge, lc_le, lc_eq, i64_toInt] at c9
            try simp (disch := omega) only [cv_lt, cv_le, cv_eq, nI_toInt, cv_0] at c9
            first
            | omega
            | refine r_aload0 hR dX4_tellRota_12 ?_
              refine r_get hR (by first | decide | assumption | (simp only [gcnt_4, gcnt_1, gcnt_2, gcnt_3, gcnt_12, gcnt_13, gcnt_16]; omega)) fl_X4_9 rfl rfl dX4_tellRota_13 ?_
              try simp only [lc_2, lc_3, lc_4]
              refine r_get hR (by first | decide | assumption | (simp only [gcnt_4, gcnt_1, gcnt_2, gcnt_3, gcnt_12, gcnt_13, gcnt_16]; omega)) fl_X4_28 rfl rfl dX4_tellRota_16 ?_
              try simp only [lc_2, lc_3, lc_4]
              refine r_iconst hR (nI 2) (by decide) dX4_tellRota_19 ?_
              refine r_icmp_eq hR 25 dX4_tellRota_20 (by decide) (fun c20 => ?_) (fun c20 => ?_)
              · try simp (disch := omega) only [nI_ltI, nI_leI, nI_eq, bI_0, Decidable.not_not, lc_lt, lc_gt, lc_ge, lc_le, lc_eq, i64_toInt] at c20
                try simp (disch := omega) only [cv_lt, cv_le, cv_eq, nI_toInt, cv_0] at c20
                first
                | omega
                | exact J25 (by omega)
              · try simp (disch := omega) only [nI_ltI, nI_leI, nI_eq, bI_0, Decidable.not_not, lc_lt, lc_gt, lc_ge, lc_le, lc_eq, i64_toInt] at c20
                try simp (disch := omega) only [cv_lt, cv_le, cv_eq, nI_toInt, cv_0] at c20
                first
                | omega
                | refine r_iconst hR (nI 1) (by decide) dX4_tellRota_23 ?_
                  refine r_zret hR dX4_tellRota_24 rfl ?_
                  have es : (rotC T l (j + 1) i S' L') = (0, S', L') := by
                    unfold rotC
                    rw [if_pos (by omega)]
                  have h0 : (rotC T l 7 0 S L).1 = 0 := by rw [← h1, es]
                  refine ⟨by rw [bI_t h0], ?_⟩
                  rw [← hF, es, putSn_id hsN]
  refine r_iconst hR (nI 0) (by decide) dX4_tellRota_0 ?_
  refine r_istore2 hR (fun _ h => by first | (cases h; rfl) | exact absurd h (by simp)) dX4_tellRota_1 ?_
  exact L0 7 0 M S L _ rfl h hL hS rfl rfl


