theorem tap_th {M : gM} {T : Nat → Nat} {l : Nat} (h : tapP M T l) : tapP (thM M) T l := ⟨by rw [cpR_r, if_neg (by omega)]; exact h.1, fun j hj => by rw [cpR_r, if_neg (by omega)]; exact h.2.1 j hj, h.2.2⟩
theorem lx_start (M : gM) (L : Lx) (x : Int32) : lxM (seti (seti M 15 0 11 x) 15 0 13 (nI 0)) L = rM M L 0 := by
  refine gM_ext (fun r i k => ?_) rfl
  rw [rM_r]
  unfold lxM X8
  rw [seti_r, seti_r, seti_r, seti_r, seti_r, seti_r]
  (repeat' split) <;> first | rfl | omega
set_option maxHeartbeats 4000000 in
set_option maxRecDepth 100000 in
theorem t_X8_sea {G : gG} {M : gM} {A : gA} (hc : mdlP M A) (hw : wfA A) : Ct G mX8_sea 7 [.ref (ad G 15 0)] M (Qm M (oSea A)) := by
  obtain ⟨hwf, hday, hwk, hk2, hl, hT, hsh⟩ := id hw
  obtain ⟨w0, w1, w2, w3, wr, wt⟩ := id hwf
  obtain ⟨h, hKp, hkk, hlp, htp, hshp, hfp⟩ := id hc
  refine Ct.of (by decide +kernel) (k := 1) (ls0 := [some (.ref (ad G 15 0)), none]) rfl rfl (fun _ _ => trivial) ?_
  intro P hR
  have h8 : tapP M (aT A) (al A) := ⟨hlp, htp, hl, hT⟩
  have h9 := tap_th h8
  have hr9 := row_th h
  have hL0 := (lexN_B (l := al A) hT (Nat.zero_le _)).1
  have J43 : ∀ (n : Nat) (R : It), (n, R) = seaR (aT A) (al A) (aS A) → stOK (al A) (aS A) R → P 43 [some (.ref (ad G 15 0)), some (.int (nI n))] [] (rM (pm (thM M) R.2.1) R.2.2 R.1) := by
    intro n R hs hst
    have hb2 := hst.2.1
    have hb1 := hst.1.1
    by_cases q : R.1 = 0 ∧ R.2.2.1 = 22
    · skip
      refine r_aload0 hR dX8_sea_43 ?_
      refine r_aload0 hR dX8_sea_44 ?_
      refine r_get hR (by first | decide | assumption | (simp only [gcnt_4, gcnt_1, gcnt_2, gcnt_3, gcnt_12, gcnt_13, gcnt_16]; omega)) fl_X8_174 rfl rfl dX8_sea_45 ?_
      try simp only [rM_9, rM_10, rM_11, rM_12, rM_13]
      refine r_if_ne hR 60 dX8_sea_48 (by decide) (fun c48 => ?_) (fun c48 => ?_)
      · try simp (disch := omega) only [nI_ltI, nI_leI, nI_eq, bI_0, Decidable.not_not, lc_lt, lc_gt, lc_ge, lc_le, lc_eq, i64_toInt] at c48
        try simp (disch := omega) only [cv_lt, cv_le, cv_eq, nI_toInt, cv_0] at c48
        first
        | omega
        | refine r_iconst hR (nI 1) (by decide) dX8_sea_60 ?_
          refine r_goto hR 65 dX8_sea_61 (by decide) ?_
          refine r_puti hR (by first | decide | assumption | (simp only [gcnt_4, gcnt_1, gcnt_2, gcnt_3, gcnt_12, gcnt_13, gcnt_16]; omega)) fp_X8_174 rfl rfl (Nat.le_of_ble_eq_true rfl) rfl rfl dX8_sea_65 ?_
          rw [rM_bad]
          refine r_aload0 hR dX8_sea_68 ?_
          refine r_iconst hR (nI 0) (by decide) dX8_sea_69 ?_
          refine r_puti hR (by first | decide | assumption | (simp only [gcnt_4, gcnt_1, gcnt_2, gcnt_3, gcnt_12, gcnt_13, gcnt_16]; omega)) fp_X8_145 rfl rfl (Nat.le_of_ble_eq_true rfl) rfl rfl dX8_sea_70 ?_
          refine r_aload0 hR dX8_sea_73 ?_
          refine r_get hR (by first | decide | assumption | (simp only [gcnt_4, gcnt_1, gcnt_2, gcnt_3, gcnt_12, gcnt_13, gcnt_16]; omega)) fl_X8_174 rfl rfl dX8_sea_74 ?_
          try simp only [rM_9, rM_10, rM_11, rM_12, rM_13]
          rw [seti_r, if_neg (by omega), rM_13]
          refine r_if_ne hR 82 dX8_sea_77 (by decide) (fun c77 => absurd c77 (fun q => q rfl)) (fun c77 => ?_)
          refine r_iload1 hR dX8_sea_80 ?_
          refine r_iret hR dX8_sea_81 ?_
          have e : oSea A = (nI n, sT (sS A R.2.1) (aT A) 0) := by
            unfold oSea
            rw [← hs]
            exact if_pos q
          unfold Qm
          rw [e]
          refine ⟨rfl, mdlP_read hc (fun r i k a b => ?_) rfl ?_ (fun k hk => ?_), fun r hr => ⟨?_, rfl⟩⟩
          · rw [seti_r, if_neg (by omega), rM_o _ _ _ (by omega), putR_far _ _ _ (by omega), cpR_r, if_neg (by omega)]
          · rw [seti_r, if_pos ⟨rfl, rfl, rfl⟩]
          · rw [seti_r, if_neg (by omega)]
            exact rM_rowP (rowP_pm _ _) k hk
          · funext i k
            rw [seti_r, if_neg (by omega), rM_o _ _ _ (by omega), putR_far _ _ _ (by omega), cpR_r, if_neg (by omega)]
      · try simp (disch := omega) only [nI_ltI, nI_leI, nI_eq, bI_0, Decidable.not_not, lc_lt, lc_gt, lc_ge, lc_le, lc_eq, i64_toInt] at c48
        try simp (disch := omega) only [cv_lt, cv_le, cv_eq, nI_toInt, cv_0] at c48
        first
        | omega
        | refine r_aload0 hR dX8_sea_51 ?_
          refine r_get hR (by first | decide | assumption | (simp only [gcnt_4, gcnt_1, gcnt_2, gcnt_3, gcnt_12, gcnt_13, gcnt_16]; omega)) fl_X8_168 rfl rfl dX8_sea_52 ?_
          try simp only [rM_9, rM_10, rM_11, rM_12, rM_13]
          refine r_bipush hR (nI 22) (by decide) dX8_sea_55 ?_
          refine r_icmp_eq hR 64 dX8_sea_57 (by decide) (fun c57 => ?_) (fun c57 => ?_)
          · try simp (disch := omega) only [nI_ltI, nI_leI, nI_eq, bI_0, Decidable.not_not, lc_lt, lc_gt, lc_ge, lc_le, lc_eq, i64_toInt] at c57
            try simp (disch := omega) only [cv_lt, cv_le, cv_eq, nI_toInt, cv_0] at c57
            first
            | omega
            | refine r_iconst hR (nI 0) (by decide) dX8_sea_64 ?_
              refine r_puti hR (by first | decide | assumption | (simp only [gcnt_4, gcnt_1, gcnt_2, gcnt_3, gcnt_12, gcnt_13, gcnt_16]; omega)) fp_X8_174 rfl rfl (Nat.le_of_ble_eq_true rfl) rfl rfl dX8_sea_65 ?_
              rw [rM_bad]
              refine r_aload0 hR dX8_sea_68 ?_
              refine r_iconst hR (nI 0) (by decide) dX8_sea_69 ?_
              refine r_puti hR (by first | decide | assumption | (simp only [gcnt_4, gcnt_1, gcnt_2, gcnt_3, gcnt_12, gcnt_13, gcnt_16]; omega)) fp_X8_145 rfl rfl (Nat.le_of_ble_eq_true rfl) rfl rfl dX8_sea_70 ?_
              refine r_aload0 hR dX8_sea_73 ?_
              refine r_get hR (by first | decide | assumption | (simp only [gcnt_4, gcnt_1, gcnt_2, gcnt_3, gcnt_12, gcnt_13, gcnt_16]; omega)) fl_X8_174 rfl rfl dX8_sea_74 ?_
              try simp only [rM_9, rM_10, rM_11, rM_12, rM_13]
              rw [seti_r, if_neg (by omega), rM_13]
              refine r_if_ne hR 82 dX8_sea_77 (by decide) (fun c77 => absurd c77 (fun q => q rfl)) (fun c77 => ?_)
              refine r_iload1 hR dX8_sea_80 ?_
              refine r_iret hR dX8_sea_81 ?_
              have e : oSea A = (nI n, sT (sS A R.2.1) (aT A) 0) := by
                unfold oSea
                rw [← hs]
                exact if_pos q
              unfold Qm
              rw [e]
              refine ⟨rfl, mdlP_read hc (fun r i k a b => ?_) rfl ?_ (fun k hk => ?_), fun r hr => ⟨?_, rfl⟩⟩
              · rw [seti_r, if_neg (by omega), rM_o _ _ _ (by omega), putR_far _ _ _ (by omega), cpR_r, if_neg (by omega)]
              · rw [seti_r, if_pos ⟨rfl, rfl, rfl⟩]
              · rw [seti_r, if_neg (by omega)]
                exact rM_rowP (rowP_pm _ _) k hk
              · funext i k
                rw [seti_r, if_neg (by omega), rM_o _ _ _ (by omega), putR_far _ _ _ (by omega), cpR_r, if_neg (by omega)]
          · try simp (disch := omega) only [nI_ltI, nI_leI, nI_eq, bI_0, Decidable.not_not, lc_lt, lc_gt, lc_ge, lc_le, lc_eq, i64_toInt] at c57
            try simp (disch := omega) only [cv_lt, cv_le, cv_eq, nI_toInt, cv_0] at c57
            first
            | omega
            | refine r_iconst hR (nI 1) (by decide) dX8_sea_60 ?_
              refine r_goto hR 65 dX8_sea_61 (by decide) ?_
              refine r_puti hR (by first | decide | assumption | (simp only [gcnt_4, gcnt_1, gcnt_2, gcnt_3, gcnt_12, gcnt_13, gcnt_16]; omega)) fp_X8_174 rfl rfl (Nat.le_of_ble_eq_true rfl) rfl rfl dX8_sea_65 ?_
              rw [rM_bad]
              refine r_aload0 hR dX8_sea_68 ?_
              refine r_iconst hR (nI 0) (by decide) dX8_sea_69 ?_
              refine r_puti hR (by first | decide | assumption | (simp only [gcnt_4, gcnt_1, gcnt_2, gcnt_3, gcnt_12, gcnt_13, gcnt_16]; omega)) fp_X8_145 rfl rfl (Nat.le_of_ble_eq_true rfl) rfl rfl dX8_sea_70 ?_
              refine r_aload0 hR dX8_sea_73 ?_
              refine r_get hR (by first | decide | assumption | (simp only [gcnt_4, gcnt_1, gcnt_2, gcnt_3, gcnt_12, gcnt_13, gcnt_16]; omega)) fl_X8_174 rfl rfl dX8_sea_74 ?_
              try simp only [rM_9, rM_10, rM_11, rM_12, rM_13]
              rw [seti_r, if_neg (by omega), rM_13]
              refine r_if_ne hR 82 dX8_sea_77 (by decide) (fun c77 => absurd c77 (fun q => q rfl)) (fun c77 => ?_)
              refine r_iload1 hR dX8_sea_80 ?_
              refine r_iret hR dX8_sea_81 ?_
              have e : oSea A = (nI n, sT (sS A R.2.1) (aT A) 0) := by
                unfold oSea
                rw [← hs]
                exact if_pos q
              unfold Qm
              rw [e]
              refine ⟨rfl, mdlP_read hc (fun r i k a b => ?_) rfl ?_ (fun k hk => ?_), fun r hr => ⟨?_, rfl⟩⟩
              · rw [seti_r, if_neg (by omega), rM_o _ _ _ (by omega), putR_far _ _ _ (by omega), cpR_r, if_neg (by omega)]
              · rw [seti_r, if_pos ⟨rfl, rfl, rfl⟩]
              · rw [seti_r, if_neg (by omega)]
                exact rM_rowP (rowP_pm _ _) k hk
              · funext i k
                rw [seti_r, if_neg (by omega), rM_o _ _ _ (by omega), putR_far _ _ _ (by omega), cpR_r, if_neg (by omega)]
    · skip
      refine r_aload0 hR dX8_sea_43 ?_
      refine r_aload0 hR dX8_sea_44 ?_
      refine r_get hR (by first | decide | assumption | (simp only [gcnt_4, gcnt_1, gcnt_2, gcnt_3, gcnt_12, gcnt_13, gcnt_16]; omega)) fl_X8_174 rfl rfl dX8_sea_45 ?_
      try simp only [rM_9, rM_10, rM_11, rM_12, rM_13]
      refine r_if_ne hR 60 dX8_sea_48 (by decide) (fun c48 => ?_) (fun c48 => ?_)
      · try simp (disch := omega) only [nI_ltI, nI_leI, nI_eq, bI_0, Decidable.not_not, lc_lt, lc_gt, lc_ge, lc_le, lc_eq, i64_toInt] at c48
        try simp (disch := omega) only [cv_lt, cv_le, cv_eq, nI_toInt, cv_0] at c48
        first
        | omega
        | refine r_iconst hR (nI 1) (by decide) dX8_sea_60 ?_
          refine r_goto hR 65 dX8_sea_61 (by decide) ?_
          refine r_puti hR (by first | decide | assumption | (simp only [gcnt_4, gcnt_1, gcnt_2, gcnt_3, gcnt_12, gcnt_13, gcnt_16]; omega)) fp_X8_174 rfl rfl (Nat.le_of_ble_eq_true rfl) rfl rfl dX8_sea_65 ?_
          rw [rM_bad]
          refine r_aload0 hR dX8_sea_68 ?_
          refine r_iconst hR (nI 0) (by decide) dX8_sea_69 ?_
          refine r_puti hR (by first | decide | assumption | (simp only [gcnt_4, gcnt_1, gcnt_2, gcnt_3, gcnt_12, gcnt_13, gcnt_16]; omega)) fp_X8_145 rfl rfl (Nat.le_of_ble_eq_true rfl) rfl rfl dX8_sea_70 ?_
          refine r_aload0 hR dX8_sea_73 ?_
          refine r_get hR (by first | decide | assumption | (simp only [gcnt_4, gcnt_1, gcnt_2, gcnt_3, gcnt_12, gcnt_13, gcnt_16]; omega)) fl_X8_174 rfl rfl dX8_sea_74 ?_
          try simp only [rM_9, rM_10, rM_11, rM_12, rM_13]
          rw [seti_r, if_neg (by omega), rM_13]
          refine r_if_ne hR 82 dX8_sea_77 (by decide) (fun c77 => ?_) (fun c77 => absurd c77 (by decide))
          refine r_aload0 hR dX8_sea_82 ?_
          refine r_cv0u hR kv_X8_127 (by decide) (t_X8_putsBack) (by first | decide | assumption | (simp only [gcnt_4, gcnt_1, gcnt_2, gcnt_3, gcnt_12, gcnt_13, gcnt_16]; omega)) rfl rfl (Nat.le_of_ble_eq_true rfl) dX8_sea_83 ?_
          refine r_iconst hR (-1) (by decide) dX8_sea_86 ?_
          refine r_aload0 hR dX8_sea_87 ?_
          refine r_get hR (by first | decide | assumption | (simp only [gcnt_4, gcnt_1, gcnt_2, gcnt_3, gcnt_12, gcnt_13, gcnt_16]; omega)) fl_X8_152 rfl rfl dX8_sea_88 ?_
          try simp only [rM_9, rM_10, rM_11, rM_12, rM_13]
          rw [cpR_r, if_neg (by omega), seti_r, if_neg (by omega), rM_10]
          refine r_isub hR dX8_sea_91 ?_
          refine r_iret hR dX8_sea_92 ?_
          have e : oSea A = (-1 - nI R.2.2.2.1, sT A (aT A) 0) := by
            unfold oSea
            rw [← hs]
            exact if_neg q
          unfold Qm
          rw [e]
          refine ⟨rfl, mdlP_read (S := aS A) hc (fun r i k a b => ?_) rfl ?_ (fun k hk => ?_), fun r hr => ⟨?_, rfl⟩⟩
          · rw [cpR_r, if_neg (by omega)]
            rw [seti_r, if_neg (by omega), rM_o _ _ _ (by omega), putR_far _ _ _ (by omega), cpR_r, if_neg (by omega)]
          · rw [cpR_r, if_neg (by omega), seti_r, if_pos ⟨rfl, rfl, rfl⟩]
          · rw [cpR_r, if_pos ⟨rfl, rfl, by omega⟩, seti_r, if_neg (by omega), rM_o _ _ _ (by omega), putR_far _ _ _ (by omega), cpR_r, if_pos ⟨rfl, rfl, by omega⟩]
            exact h k hk
          · funext i k
            rw [cpR_r, if_neg (by omega)]
            rw [seti_r, if_neg (by omega), rM_o _ _ _ (by omega), putR_far _ _ _ (by omega), cpR_r, if_neg (by omega)]
      · try simp (disch := omega) only [nI_ltI, nI_leI, nI_eq, bI_0, Decidable.not_not, lc_lt, lc_gt, lc_ge, lc_le, lc_eq, i64_toInt] at c48
        try simp (disch := omega) only [cv_lt, cv_le, cv_eq, nI_toInt, cv_0] at c48
        first
        | omega
        | refine r_aload0 hR dX8_sea_51 ?_
          refine r_get hR (by first | decide | assumption | (simp only [gcnt_4, gcnt_1, gcnt_2, gcnt_3, gcnt_12, gcnt_13, gcnt_16]; omega)) fl_X8_168 rfl rfl dX8_sea_52 ?_
          try simp only [rM_9, rM_10, rM_11, rM_12, rM_13]
          refine r_bipush hR (nI 22) (by decide) dX8_sea_55 ?_
          refine r_icmp_eq hR 64 dX8_sea_57 (by decide) (fun c57 => ?_) (fun c57 => ?_)
          · try simp (disch := omega) only [nI_ltI, nI_leI, nI_eq, bI_0, Decidable.not_not, lc_lt, lc_gt, lc_ge, lc_le, lc_eq, i64_toInt] at c57
            try simp (disch := omega) only [cv_lt, cv_le, cv_eq, nI_toInt, cv_0] at c57
            first
            | omega
            | refine r_iconst hR (nI 0) (by decide) dX8_sea_64 ?_
              refine r_puti hR (by first | decide | assumption | (simp only [gcnt_4, gcnt_1, gcnt_2, gcnt_3, gcnt_12, gcnt_13, gcnt_16]; omega)) fp_X8_174 rfl rfl (Nat.le_of_ble_eq_true rfl) rfl rfl dX8_sea_65 ?_
              rw [rM_bad]
              refine r_aload0 hR dX8_sea_68 ?_
              refine r_iconst hR (nI 0) (by decide) dX8_sea_69 ?_
              refine r_puti hR (by first | decide | assumption | (simp only [gcnt_4, gcnt_1, gcnt_2, gcnt_3, gcnt_12, gcnt_13, gcnt_16]; omega)) fp_X8_145 rfl rfl (Nat.le_of_ble_eq_true rfl) rfl rfl dX8_sea_70 ?_
              refine r_aload0 hR dX8_sea_73 ?_
              refine r_get hR (by first | decide | assumption | (simp only [gcnt_4, gcnt_1, gcnt_2, gcnt_3, gcnt_12, gcnt_13, gcnt_16]; omega)) fl_X8_174 rfl rfl dX8_sea_74 ?_
              try simp only [rM_9, rM_10, rM_11, rM_12, rM_13]
              rw [seti_r, if_neg (by omega), rM_13]
              refine r_if_ne hR 82 dX8_sea_77 (by decide) (fun c77 => ?_) (fun c77 => absurd c77 (by decide))
              refine r_aload0 hR dX8_sea_82 ?_
              refine r_cv0u hR kv_X8_127 (by decide) (t_X8_putsBack) (by first | decide | assumption | (simp only [gcnt_4, gcnt_1, gcnt_2, gcnt_3, gcnt_12, gcnt_13, gcnt_16]; omega)) rfl rfl (Nat.le_of_ble_eq_true rfl) dX8_sea_83 ?_
              refine r_iconst hR (-1) (by decide) dX8_sea_86 ?_
              refine r_aload0 hR dX8_sea_87 ?_
              refine r_get hR (by first | decide | assumption | (simp only [gcnt_4, gcnt_1, gcnt_2, gcnt_3, gcnt_12, gcnt_13, gcnt_16]; omega)) fl_X8_152 rfl rfl dX8_sea_88 ?_
              try simp only [rM_9, rM_10, rM_11, rM_12, rM_13]
              rw [cpR_r, if_neg (by omega), seti_r, if_neg (by omega), rM_10]
              refine r_isub hR dX8_sea_91 ?_
              refine r_iret hR dX8_sea_92 ?_
              have e : oSea A = (-1 - nI R.2.2.2.1, sT A (aT A) 0) := by
                unfold oSea
                rw [← hs]
                exact if_neg q
              unfold Qm
              rw [e]
              refine ⟨rfl, mdlP_read (S := aS A) hc (fun r i k a b => ?_) rfl ?_ (fun k hk => ?_), fun r hr => ⟨?_, rfl⟩⟩
              · rw [cpR_r, if_neg (by omega)]
                rw [seti_r, if_neg (by omega), rM_o _ _ _ (by omega), putR_far _ _ _ (by omega), cpR_r, if_neg (by omega)]
              · rw [cpR_r, if_neg (by omega), seti_r, if_pos ⟨rfl, rfl, rfl⟩]
              · rw [cpR_r, if_pos ⟨rfl, rfl, by omega⟩, seti_r, if_neg (by omega), rM_o _ _ _ (by omega), putR_far _ _ _ (by omega), cpR_r, if_pos ⟨rfl, rfl, by omega⟩]
                exact h k hk
              · funext i k
                rw [cpR_r, if_neg (by omega)]
                rw [seti_r, if_neg (by omega), rM_o _ _ _ (by omega), putR_far _ _ _ (by omega), cpR_r, if_neg (by omega)]
          · try simp (disch := omega) only [nI_ltI, nI_leI, nI_eq, bI_0, Decidable.not_not, lc_lt, lc_gt, lc_ge, lc_le, lc_eq, i64_toInt] at c57
            try simp (disch := omega) only [cv_lt, cv_le, cv_eq, nI_toInt, cv_0] at c57
            first
            | omega
            | refine r_iconst hR (nI 1) (by decide) dX8_sea_60 ?_
              refine r_goto hR 65 dX8_sea_61 (by decide) ?_
              refine r_puti hR (by first | decide | assumption | (simp only [gcnt_4, gcnt_1, gcnt_2, gcnt_3, gcnt_12, gcnt_13, gcnt_16]; omega)) fp_X8_174 rfl rfl (Nat.le_of_ble_eq_true rfl) rfl rfl dX8_sea_65 ?_
              rw [rM_bad]
              refine r_aload0 hR dX8_sea_68 ?_
              refine r_iconst hR (nI 0) (by decide) dX8_sea_69 ?_
              refine r_puti hR (by first | decide | assumption | (simp only [gcnt_4, gcnt_1, gcnt_2, gcnt_3, gcnt_12, gcnt_13, gcnt_16]; omega)) fp_X8_145 rfl rfl (Nat.le_of_ble_eq_true rfl) rfl rfl dX8_sea_70 ?_
              refine r_aload0 hR dX8_sea_73 ?_
              refine r_get hR (by first | decide | assumption | (simp only [gcnt_4, gcnt_1, gcnt_2, gcnt_3, gcnt_12, gcnt_13, gcnt_16]; omega)) fl_X8_174 rfl rfl dX8_sea_74 ?_
              try simp only [rM_9, rM_10, rM_11, rM_12, rM_13]
              rw [seti_r, if_neg (by omega), rM_13]
              refine r_if_ne hR 82 dX8_sea_77 (by decide) (fun c77 => ?_) (fun c77 => absurd c77 (by decide))
              refine r_aload0 hR dX8_sea_82 ?_
              refine r_cv0u hR kv_X8_127 (by decide) (t_X8_putsBack) (by first | decide | assumption | (simp only [gcnt_4, gcnt_1, gcnt_2, gcnt_3, gcnt_12, gcnt_13, gcnt_16]; omega)) rfl rfl (Nat.le_of_ble_eq_true rfl) dX8_sea_83 ?_
              refine r_iconst hR (-1) (by decide) dX8_sea_86 ?_
              refine r_aload0 hR dX8_sea_87 ?_
              refine r_get hR (by first | decide | assumption | (simp only [gcnt_4, gcnt_1, gcnt_2, gcnt_3, gcnt_12, gcnt_13, gcnt_16]; omega)) fl_X8_152 rfl rfl dX8_sea_88 ?_
              try simp only [rM_9, rM_10, rM_11, rM_12, rM_13]
              rw [cpR_r, if_neg (by omega), seti_r, if_neg (by omega), rM_10]
              refine r_isub hR dX8_sea_91 ?_
              refine r_iret hR dX8_sea_92 ?_
              have e : oSea A = (-1 - nI R.2.2.2.1, sT A (aT A) 0) := by
                unfold oSea
                rw [← hs]
                exact if_neg q
              unfold Qm
              rw [e]
              refine ⟨rfl, mdlP_read (S := aS A) hc (fun r i k a b => ?_) rfl ?_ (fun k hk => ?_), fun r hr => ⟨?_, rfl⟩⟩
              · rw [cpR_r, if_neg (by omega)]
                rw [seti_r, if_neg (by omega), rM_o _ _ _ (by omega), putR_far _ _ _ (by omega), cpR_r, if_neg (by omega)]
              · rw [cpR_r, if_neg (by omega), seti_r, if_pos ⟨rfl, rfl, rfl⟩]
              · rw [cpR_r, if_pos ⟨rfl, rfl, by omega⟩, seti_r, if_neg (by omega), rM_o _ _ _ (by omega), putR_far _ _ _ (by omega), cpR_r, if_pos ⟨rfl, rfl, by omega⟩]
                exact h k hk
              · funext i k
                rw [cpR_r, if_neg (by omega)]
                rw [seti_r, if_neg (by omega), rM_o _ _ _ (by omega), putR_far _ _ _ (by omega), cpR_r, if_neg (by omega)]
  have L : ∀ (j n : Nat) (R : It), stOK (al A) (aS A) R → (R.1 = 0 → 121 ≤ j + R.2.2.2.2.1) → itL (aT A) (al A) j n R = seaR (aT A) (al A) (aS A) → P 24 [some (.ref (ad G 15 0)), some (.int (nI n))] [] (rM (pm (thM M) R.2.1) R.2.2 R.1) := by
    intro j
    induction j with
    | zero =>
      intro n R hst hf hs
      have q : ¬ (R.1 = 0 ∧ R.2.2.1 = 21) := fun z => by
        have f := hf z.1
        have g := hst.1.2.2.1
        omega
      refine r_aload0 hR dX8_sea_24 ?_
      refine r_bipush hR (nI 21) (by decide) dX8_sea_25 ?_
      refine r_cv1v hR kv_X8_181 (by decide) (t_X8_passes (pm_tap h9) hst.1 hst.2.1 (by decide)) (by first | decide | assumption | (simp only [gcnt_4, gcnt_1, gcnt_2, gcnt_3, gcnt_12, gcnt_13, gcnt_16]; omega)) rfl rfl (Nat.le_of_ble_eq_true rfl) dX8_sea_27 ?_
      rw [bI_f q, if_neg q]
      refine r_if_eq hR 43 dX8_sea_30 (by decide) (fun c30 => ?_) (fun c30 => absurd rfl c30)
      exact J43 n R hs hst
    | succ j ih =>
      intro n R hst hf hs
      by_cases q : R.1 = 0 ∧ R.2.2.1 = 21
      · have hmon := ((iteM_ok hT (S := R.2.1) (lexN_B hT hst.1.2.2.1).1 (hst.2.2.2.2 q.1)).1).2.2.2.2.1.1
        refine r_aload0 hR dX8_sea_24 ?_
        refine r_bipush hR (nI 21) (by decide) dX8_sea_25 ?_
        refine r_cv1v hR kv_X8_181 (by decide) (t_X8_passes (pm_tap h9) hst.1 hst.2.1 (by decide)) (by first | decide | assumption | (simp only [gcnt_4, gcnt_1, gcnt_2, gcnt_3, gcnt_12, gcnt_13, gcnt_16]; omega)) rfl rfl (Nat.le_of_ble_eq_true rfl) dX8_sea_27 ?_
        rw [bI_t q, if_pos q, q.1]
        refine r_if_eq hR 43 dX8_sea_30 (by decide) (fun c30 => absurd c30 (by decide)) (fun c30 => ?_)
        refine r_aload0 hR dX8_sea_33 ?_
        refine r_cv0u hR kv_X8_197 (by decide) (t_X8_item (pm_tap h9) (lexN_B hT hst.1.2.2.1).1 (rowP_pm (thM M) R.2.1) hst.2.2.2.1 (hst.2.2.2.2 q.1).2.2.1) (by first | decide | assumption | (simp only [gcnt_4, gcnt_1, gcnt_2, gcnt_3, gcnt_12, gcnt_13, gcnt_16]; omega)) rfl rfl (Nat.le_of_ble_eq_true rfl) dX8_sea_34 ?_
        rw [pm_le _ _ _ hmon]
        refine r_iinc1 hR (nI 1) (by decide) (fun _ h => by first | (cases h; rfl) | exact absurd h (by simp)) dX8_sea_37 ?_
        try rw [nI_add]
        refine r_goto hR 24 dX8_sea_40 (by decide) ?_
        refine ih (n + 1) (iteM (aT A) (al A) R.2.1 (lexN (aT A) (al A) R.2.2.2.2.1)) (stOK_s hT hst q.1) (fun z => ?_) ?_
        · have f1 := it_far hT hst q.1 z
          have f2 := (stOK_s hT hst q.1).1.2.2.2.2.1
          have f3 := hf q.1
          omega
        · rw [← hs]
          conv => rhs; unfold itL
          rw [if_pos q]
      · skip
        refine r_aload0 hR dX8_sea_24 ?_
        refine r_bipush hR (nI 21) (by decide) dX8_sea_25 ?_
        refine r_cv1v hR kv_X8_181 (by decide) (t_X8_passes (pm_tap h9) hst.1 hst.2.1 (by decide)) (by first | decide | assumption | (simp only [gcnt_4, gcnt_1, gcnt_2, gcnt_3, gcnt_12, gcnt_13, gcnt_16]; omega)) rfl rfl (Nat.le_of_ble_eq_true rfl) dX8_sea_27 ?_
        rw [bI_f q, if_neg q]
        refine r_if_eq hR 43 dX8_sea_30 (by decide) (fun c30 => ?_) (fun c30 => absurd rfl c30)
        refine J43 n R ?_ hst
        rw [← hs]
        unfold itL
        rw [if_neg q]
  refine r_aload0 hR dX8_sea_0 ?_
  refine r_cv0u hR kv_X8_124 (by decide) (t_X8_thinks) (by first | decide | assumption | (simp only [gcnt_4, gcnt_1, gcnt_2, gcnt_3, gcnt_12, gcnt_13, gcnt_16]; omega)) rfl rfl (Nat.le_of_ble_eq_true rfl) dX8_sea_1 ?_
  refine r_aload0 hR dX8_sea_4 ?_
  refine r_iconst hR (nI 0) (by decide) dX8_sea_5 ?_
  refine r_puti hR (by first | decide | assumption | (simp only [gcnt_4, gcnt_1, gcnt_2, gcnt_3, gcnt_12, gcnt_13, gcnt_16]; omega)) fp_X8_155 rfl rfl (Nat.le_of_ble_eq_true rfl) rfl rfl dX8_sea_6 ?_
  refine r_aload0 hR dX8_sea_9 ?_
  refine r_iconst hR (nI 0) (by decide) dX8_sea_10 ?_
  refine r_puti hR (by first | decide | assumption | (simp only [gcnt_4, gcnt_1, gcnt_2, gcnt_3, gcnt_12, gcnt_13, gcnt_16]; omega)) fp_X8_174 rfl rfl (Nat.le_of_ble_eq_true rfl) rfl rfl dX8_sea_11 ?_
  refine r_aload0 hR dX8_sea_14 ?_
  refine r_cv0u hR kv_X8_178 (by decide) (t_X8_reads (tap_s (tap_s h9 (by decide)) (by decide)) (p := 0) (by rw [seti_r, if_neg (by omega), seti_r, if_pos ⟨rfl, rfl, rfl⟩]) (Nat.zero_le _)) (by first | decide | assumption | (simp only [gcnt_4, gcnt_1, gcnt_2, gcnt_3, gcnt_12, gcnt_13, gcnt_16]; omega)) rfl rfl (Nat.le_of_ble_eq_true rfl) dX8_sea_15 ?_
  rw [lx_start]
  refine r_aload0 hR dX8_sea_18 ?_
  refine r_cv0u hR kv_X8_197 (by decide) (t_X8_item h9 hL0 hr9 w3 w2) (by first | decide | assumption | (simp only [gcnt_4, gcnt_1, gcnt_2, gcnt_3, gcnt_12, gcnt_13, gcnt_16]; omega)) rfl rfl (Nat.le_of_ble_eq_true rfl) dX8_sea_19 ?_
  refine r_iconst hR (nI 1) (by decide) dX8_sea_22 ?_
  refine r_istore1 hR (fun _ h => by first | (cases h; rfl) | exact absurd h (by simp)) dX8_sea_23 ?_
  exact L 121 1 (iteM (aT A) (al A) (aS A) (lexN (aT A) (al A) 0)) (stOK_0 hT hwf) (fun _ => by omega) rfl

