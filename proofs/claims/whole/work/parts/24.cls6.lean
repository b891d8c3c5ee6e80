def shF (A : gA) (x y : Int32) : Int32 := if okI x 0 3 then (if ab A (uN x) = 0 then -1000000006 else if okT A y then nI 0 else -1000000001) else -1000000001
set_option maxHeartbeats 4000000 in
set_option maxRecDepth 100000 in
theorem t_X7_sheetFinding {G : gG} {M : gM} {A : gA} {x y : Int32} (hc : clsP M A) (hw : wfA A) : Cf G mX7_sheetFinding 1 [.ref (ad G 0 0), .int x, .int y] M (some (.int (shF A x y))) M := by
  obtain ⟨hwf, hday, hwk, hk2, hl, hT, hsh⟩ := id hw
  obtain ⟨w0, w1, w2, w3, wr, wt⟩ := id hwf
  obtain ⟨s0, s2, s3, s4, sr, sth⟩ := id hc.1
  have hK8 : ak A = 1 → aK A 3 ≤ 8 := fun z => (hwk z).1.2.2.2.1
  refine Ct.of (by decide +kernel) (k := 0) (ls0 := [some (.ref (ad G 0 0)), some (.int x), some (.int y)]) rfl rfl (fun _ _ => trivial) ?_
  intro P hR
  have hc3 := hc.2.2.1
  have hc4 := hc.2.2.2.1
  have hc5 := hc.2.2.2.2.1
  have hc6 := hc.2.2.2.2.2.1
  have hc7 := hc.2.2.2.2.2.2
  refine r_iload1 hR dX7_sheetFinding_0 ?_
  refine r_iconst hR (nI 3) (by decide) dX7_sheetFinding_1 ?_
  refine r_cs2v hR ks_X7_77 (by decide) (t_X7_within) (Nat.le_of_ble_eq_true rfl) dX7_sheetFinding_2 ?_
  refine r_if_ne hR 11 dX7_sheetFinding_5 (by decide) (fun c5 => ?_) (fun c5 => ?_)
  · try simp (disch := omega) only [nI_ltI, nI_leI, nI_eq, bI_0, Decidable.not_not, lc_lt, lc_gt, lc_ge, lc_le, lc_eq, i64_toInt] at c5
    try simp (disch := omega) only [cv_lt, cv_le, cv_eq, nI_toInt, cv_0] at c5
    first
    | omega
    | obtain ⟨s, hs, rfl⟩ := of_in (x := x) (N := 3) (by omega)
      obtain ⟨g0, g1, g2⟩ := hc6 s (by omega)
      have hb9 : ab A s < 100 := by have := (hsh s (by omega)).1; omega
      have hz4 := (hsh s (by omega)).2
      refine r_aload0 hR dX7_sheetFinding_11 ?_
      refine r_get hR (by first | decide | assumption | (simp only [gcnt_4, gcnt_1, gcnt_2, gcnt_3, gcnt_12, gcnt_13, gcnt_16]; omega)) fl_X7_68 rfl rfl dX7_sheetFinding_12 ?_
      try simp only [s0, s2, s3, s4]
      refine r_iload1 hR dX7_sheetFinding_15 ?_
      refine r_aald hR (t0 := 2) (by first | decide | assumption | (simp only [gcnt_4, gcnt_1, gcnt_2, gcnt_3, gcnt_12, gcnt_13, gcnt_16]; omega)) rfl rfl rfl (by omega) (by decide) rfl dX7_sheetFinding_16 ?_
      refine r_cv0v hR kv_X7_236 (by decide) (t_X2_isMissing (by omega) g0 hb9) (by first | decide | assumption | (simp only [gcnt_4, gcnt_1, gcnt_2, gcnt_3, gcnt_12, gcnt_13, gcnt_16]; omega)) rfl rfl (Nat.le_of_ble_eq_true rfl) dX7_sheetFinding_17 ?_
      refine r_if_eq hR 26 dX7_sheetFinding_20 (by decide) (fun c20 => ?_) (fun c20 => ?_)
      · try simp (disch := omega) only [nI_ltI, nI_leI, nI_eq, bI_0, Decidable.not_not, lc_lt, lc_gt, lc_ge, lc_le, lc_eq, i64_toInt] at c20
        try simp (disch := omega) only [cv_lt, cv_le, cv_eq, nI_toInt, cv_0] at c20
        first
        | omega
        | refine r_aload0 hR dX7_sheetFinding_26 ?_
          refine r_get hR (by first | decide | assumption | (simp only [gcnt_4, gcnt_1, gcnt_2, gcnt_3, gcnt_12, gcnt_13, gcnt_16]; omega)) fl_X7_10 rfl rfl dX7_sheetFinding_27 ?_
          try simp only [s0, s2, s3, s4]
          refine r_iload2 hR dX7_sheetFinding_30 ?_
          refine r_cv1v hR kv_X7_121 (by decide) (t_X1_has (by decide) hc.1 w3) (by first | decide | assumption | (simp only [gcnt_4, gcnt_1, gcnt_2, gcnt_3, gcnt_12, gcnt_13, gcnt_16]; omega)) rfl rfl (Nat.le_of_ble_eq_true rfl) dX7_sheetFinding_31 ?_
          refine r_if_eq hR 41 dX7_sheetFinding_34 (by decide) (fun c34 => ?_) (fun c34 => ?_)
          · try simp (disch := omega) only [nI_ltI, nI_leI, nI_eq, bI_0, Decidable.not_not, lc_lt, lc_gt, lc_ge, lc_le, lc_eq, i64_toInt] at c34
            try simp (disch := omega) only [cv_lt, cv_le, cv_eq, nI_toInt, cv_0] at c34
            first
            | omega
            | refine r_ldc hR ct_X7_81 dX7_sheetFinding_41 ?_
              refine r_iret hR dX7_sheetFinding_43 ?_
              refine ⟨?_, rfl⟩
              unfold shF
              rw [if_pos (by simp (disch := omega) only [okI, nI_toInt]; omega), uN_nI (by omega), if_neg (by omega)]
              first
              | rw [if_pos (by dsimp only [okT]; omega)]
              | rw [if_neg (by dsimp only [okT]; omega)]
          · try simp (disch := omega) only [nI_ltI, nI_leI, nI_eq, bI_0, Decidable.not_not, lc_lt, lc_gt, lc_ge, lc_le, lc_eq, i64_toInt] at c34
            try simp (disch := omega) only [cv_lt, cv_le, cv_eq, nI_toInt, cv_0] at c34
            first
            | omega
            | refine r_iconst hR (nI 0) (by decide) dX7_sheetFinding_37 ?_
              refine r_goto hR 43 dX7_sheetFinding_38 (by decide) ?_
              refine r_iret hR dX7_sheetFinding_43 ?_
              refine ⟨?_, rfl⟩
              unfold shF
              rw [if_pos (by simp (disch := omega) only [okI, nI_toInt]; omega), uN_nI (by omega), if_neg (by omega)]
              first
              | rw [if_pos (by dsimp only [okT]; omega)]
              | rw [if_neg (by dsimp only [okT]; omega)]
      · try simp (disch := omega) only [nI_ltI, nI_leI, nI_eq, bI_0, Decidable.not_not, lc_lt, lc_gt, lc_ge, lc_le, lc_eq, i64_toInt] at c20
        try simp (disch := omega) only [cv_lt, cv_le, cv_eq, nI_toInt, cv_0] at c20
        first
        | omega
        | refine r_ldc hR ct_X7_239 dX7_sheetFinding_23 ?_
          refine r_iret hR dX7_sheetFinding_25 ?_
          refine ⟨?_, rfl⟩
          unfold shF
          rw [if_pos (by simp (disch := omega) only [okI, nI_toInt]; omega), uN_nI (by omega), if_pos (by omega)]
  · try simp (disch := omega) only [nI_ltI, nI_leI, nI_eq, bI_0, Decidable.not_not, lc_lt, lc_gt, lc_ge, lc_le, lc_eq, i64_toInt] at c5
    try simp (disch := omega) only [cv_lt, cv_le, cv_eq, nI_toInt, cv_0] at c5
    first
    | omega
    | refine r_ldc hR ct_X7_81 dX7_sheetFinding_8 ?_
      refine r_iret hR dX7_sheetFinding_10 ?_
      refine ⟨?_, rfl⟩
      unfold shF
      rw [if_neg (by dsimp only [okI]; omega)]

set_option maxHeartbeats 4000000 in
set_option maxRecDepth 100000 in
theorem t_X7_book {G : gG} {M : gM} {A : gA} {x y : Int32} (hc : clsP M A) (hw : wfA A) : Ct G mX7_book 5 [.ref (ad G 0 0), .int x, .int y] M (Qc M (oBook A x y)) := by
  obtain ⟨hwf, hday, hwk, hk2, hl, hT, hsh⟩ := id hw
  obtain ⟨w0, w1, w2, w3, wr, wt⟩ := id hwf
  obtain ⟨s0, s2, s3, s4, sr, sth⟩ := id hc.1
  have hK8 : ak A = 1 → aK A 3 ≤ 8 := fun z => (hwk z).1.2.2.2.1
  refine Ct.of (by decide +kernel) (k := 3) (ls0 := [some (.ref (ad G 0 0)), some (.int x), some (.int y), none, none, none]) rfl rfl (fun _ _ => trivial) ?_
  intro P hR
  have hc3 := hc.2.2.1
  have hc4 := hc.2.2.2.1
  have hc5 := hc.2.2.2.2.1
  have hc6 := hc.2.2.2.2.2.1
  have hc7 := hc.2.2.2.2.2.2
  by_cases h1 : okI x 0 3
  · by_cases h2 : ab A (uN x) = 0
    · have hs : shF A x y = -1000000006 := by unfold shF; rw [if_pos h1, if_pos h2]
      refine r_aload0 hR dX7_book_0 ?_
      refine r_iload1 hR dX7_book_1 ?_
      refine r_iload2 hR dX7_book_2 ?_
      refine r_cv2v hR kv_X7_261 (by decide) (t_X7_sheetFinding hc hw) (by first | decide | assumption | (simp only [gcnt_4, gcnt_1, gcnt_2, gcnt_3, gcnt_12, gcnt_13, gcnt_16]; omega)) rfl rfl (Nat.le_of_ble_eq_true rfl) dX7_book_3 ?_
      rw [hs]
      refine r_istore3 hR (fun _ h => by first | (cases h; rfl) | exact absurd h (by simp)) dX7_book_6 ?_
      refine r_iload3 hR dX7_book_7 ?_
      refine r_if_eq hR 17 dX7_book_8 (by decide) (fun c8 => absurd c8 (by decide)) (fun c8 => ?_)
      refine r_aload0 hR dX7_book_11 ?_
      refine r_iload3 hR dX7_book_12 ?_
      refine r_cv1v hR kv_X7_82 (by decide) (t_X7_findingC (n := 5) (by decide) (by decide)) (by first | decide | assumption | (simp only [gcnt_4, gcnt_1, gcnt_2, gcnt_3, gcnt_12, gcnt_13, gcnt_16]; omega)) rfl rfl (Nat.le_of_ble_eq_true rfl) dX7_book_13 ?_
      refine r_iret hR dX7_book_16 ?_
      refine Qc_fnd hc (by decide) ?_
      unfold oBook
      rw [if_pos h1, if_pos h2]
    · by_cases h3 : okT A y
      · have hs : shF A x y = nI 0 := by unfold shF; rw [if_pos h1, if_neg h2, if_pos h3]
        obtain ⟨s, hs3, rfl⟩ := of_in (x := x) (N := 3) h1
        rw [uN_nI (by omega)] at h2
        have h3b := h3
        dsimp only [okT] at h3b
        obtain ⟨t, ht0, rfl⟩ := of_in (x := y) (N := aS A 3 - 1) (by omega)
        have htt : t < aS A 3 := by rw [nI_toInt (by omega)] at h3b; omega
        obtain ⟨g0, g1, g2⟩ := hc6 s (by omega)
        have hb9 : ab A s < 100 := by have := (hsh s (by omega)).1; omega
        have hz4 := (hsh s (by omega)).2
        have k0 : M.1 4 (8 * 0 + t) 0 = nI (thg (aS A) t 0) := sth t htt 0 (by decide)
        have k1 : M.1 4 (8 * 0 + t) 1 = nI (thg (aS A) t 1) := sth t htt 1 (by decide)
        have k2 : M.1 4 (8 * 0 + t) 2 = nI (thg (aS A) t 2) := sth t htt 2 (by decide)
        have k3 : M.1 4 (8 * 0 + t) 3 = nI (thg (aS A) t 3) := sth t htt 3 (by decide)
        have q0 : thg (aS A) t 0 < 6 := by have := wt t htt; unfold thg; rw [Nat.add_zero]; omega
        have q1 : thg (aS A) t 1 < 36 := by have := wt t htt; unfold thg; omega
        have q2 : thg (aS A) t 2 < 8 := by have := wt t htt; unfold thg; omega
        have q3 : thg (aS A) t 3 ≤ 99999 := by have := wt t htt; unfold thg; omega
        have e : oBook A (nI s) (nI t) = (nI (az A s), sB A (ab A) (az A) (va_up (an A) s (fun j => if j < az A s then cutB (ab A s) (lN (thg (dayN j (aS A)) t 3)) else an A s j))) := by
          unfold oBook
          rw [if_pos h1, uN_nI (by omega), if_neg h2, if_pos h3, uN_nI (by omega)]
        have L : ∀ (j i : Nat), i + j = az A s → P 44 [some (.ref (ad G 0 0)), some (.int (nI s)), some (.int (nI t)), some (.int (nI 0)), some (.ref (ad G 12 s)), some (.int (nI i))] [] (putTh (putL M 13 s (fun j => cutB (ab A s) (lN (thg (dayN j (aS A)) t 3))) i) 24 (thg (aS A) t 0) (thg (dayN i (aS A)) t 1) (thg (aS A) t 2) (thg (dayN i (aS A)) t 3)) := by
          intro j
          induction j with
          | zero =>
            intro i  hij 
            have p0 : (putTh (putL M 13 s (fun j => cutB (ab A s) (lN (thg (dayN j (aS A)) t 3))) i) 24 (thg (aS A) t 0) (thg (dayN i (aS A)) t 1) (thg (aS A) t 2) (thg (dayN i (aS A)) t 3)).1 12 s 0 = nI (ab A s) := by rw [putTh_r]; simp [putL_1, g0]
            have p1 : (putTh (putL M 13 s (fun j => cutB (ab A s) (lN (thg (dayN j (aS A)) t 3))) i) 24 (thg (aS A) t 0) (thg (dayN i (aS A)) t 1) (thg (aS A) t 2) (thg (dayN i (aS A)) t 3)).1 12 s 1 = nI (az A s) := by rw [putTh_r]; simp [putL_1, g1]
            have hsB : seaP (putTh (putL M 13 s (fun j => cutB (ab A s) (lN (thg (dayN j (aS A)) t 3))) (i + 1)) 24 (thg (aS A) t 0) (thg (dayN i (aS A)) t 1) (thg (aS A) t 2) (thg (dayN i (aS A)) t 3)) 0 (aS A) := seaP_eqX (eqX_putTh _ (by decide)) w3 (seaP_rows (fun _ _ => rfl) hc.1)
            obtain ⟨hcb, hsb⟩ := day_b (d := i) hwf htt
            refine r_iload5 hR dX7_book_44 ?_
            refine r_aload4 hR dX7_book_46 ?_
            refine r_get hR (by first | decide | assumption | (simp only [gcnt_4, gcnt_1, gcnt_2, gcnt_3, gcnt_12, gcnt_13, gcnt_16]; omega)) fl_X7_233 rfl rfl dX7_book_48 ?_
            try simp only [p1]
            refine r_icmp_ge hR 88 dX7_book_51 (by decide) (fun c51 => ?_) (fun c51 => ?_)
            · try simp (disch := omega) only [nI_ltI, nI_leI, nI_eq, bI_0, Decidable.not_not, lc_lt, lc_gt, lc_ge, lc_le, lc_eq, i64_toInt] at c51
              try simp (disch := omega) only [cv_lt, cv_le, cv_eq, nI_toInt, cv_0] at c51
              first
              | omega
              | refine r_aload4 hR dX7_book_88 ?_
                refine r_get hR (by first | decide | assumption | (simp only [gcnt_4, gcnt_1, gcnt_2, gcnt_3, gcnt_12, gcnt_13, gcnt_16]; omega)) fl_X7_233 rfl rfl dX7_book_90 ?_
                try simp only [p1]
                refine r_iret hR dX7_book_93 ?_
                obtain rfl : i = az A s := by omega
                unfold Qc
                rw [e]
                refine ⟨rfl, clsP_sh hc (fun r a b i z => (eqX_putTh _ (by decide)).1 r i z) w3 hK8 (fun u hu => ?_), fun r hr => ⟨?_, ?_⟩⟩
                · refine ⟨by rw [putTh_r]; simp [putL_1]; exact (hc6 u hu).1, by rw [putTh_r]; simp [putL_1]; exact (hc6 u hu).2.1, fun j hj => ?_⟩
                  show (putL M 13 s _ _).2 13 u j = _
                  rw [putL_r]
                  by_cases q : u = s
                  · subst q
                    rw [vg_s]
                    by_cases q9 : j < az A u
                    · rw [if_pos ⟨rfl, rfl, q9⟩, if_pos q9]
                    · rw [if_neg (fun h => q9 h.2.2), if_neg q9]
                      exact g2 j hj
                  · rw [if_neg (fun h => q h.2.1), vg_o q]
                    exact (hc6 u hu).2.2 j hj
                · funext i
                  exact (eqX_putTh _ (by decide)).1 r i (by unfold scr; omega)
                · funext i k
                  show (putL M 13 s _ _).2 r i k = _
                  rw [putL_r, if_neg (by omega)]
            · try simp (disch := omega) only [nI_ltI, nI_leI, nI_eq, bI_0, Decidable.not_not, lc_lt, lc_gt, lc_ge, lc_le, lc_eq, i64_toInt] at c51
              try simp (disch := omega) only [cv_lt, cv_le, cv_eq, nI_toInt, cv_0] at c51
              first
              | omega
              | refine r_aload4 hR dX7_book_54 ?_
                refine r_iload5 hR dX7_book_56 ?_
                refine r_aload0 hR dX7_book_58 ?_
                refine r_get hR (by first | decide | assumption | (simp only [gcnt_4, gcnt_1, gcnt_2, gcnt_3, gcnt_12, gcnt_13, gcnt_16]; omega)) fl_X7_29 rfl rfl dX7_book_59 ?_
                try simp only [p1]
                refine r_get hR (by first | decide | assumption | (simp only [gcnt_4, gcnt_1, gcnt_2, gcnt_3, gcnt_12, gcnt_13, gcnt_16]; omega)) fl_X7_140 rfl rfl dX7_book_62 ?_
                try simp only [p1]
                refine r_nm (nI (thg (dayN i (aS A)) t 3)) (by simp [putTh_r]) ?_
                refine r_i2l hR dX7_book_65 ?_
                rw [nI_l (by omega)]
                refine r_cv2u hR kv_X7_244 (by decide) (t_X2_put (by omega) p0 hb9 p1 hz4 (by omega)) (by first | decide | assumption | (simp only [gcnt_4, gcnt_1, gcnt_2, gcnt_3, gcnt_12, gcnt_13, gcnt_16]; omega)) rfl rfl (Nat.le_of_ble_eq_true rfl) dX7_book_66 ?_
                rw [setl_putTh, putL_grow M 13 s (fun j => cutB (ab A s) (lN (thg (dayN j (aS A)) t 3))) i]
                refine r_aload0 hR dX7_book_69 ?_
                refine r_get hR (by first | decide | assumption | (simp only [gcnt_4, gcnt_1, gcnt_2, gcnt_3, gcnt_12, gcnt_13, gcnt_16]; omega)) fl_X7_10 rfl rfl dX7_book_70 ?_
                try simp only [p1]
                refine r_aload0 hR dX7_book_73 ?_
                refine r_get hR (by first | decide | assumption | (simp only [gcnt_4, gcnt_1, gcnt_2, gcnt_3, gcnt_12, gcnt_13, gcnt_16]; omega)) fl_X7_29 rfl rfl dX7_book_74 ?_
                try simp only [p1]
                refine r_iload5 hR dX7_book_77 ?_
                refine r_cv2u hR kv_X7_185 (by decide) (t_X1_carry (by decide) hsB hwf (by decide) (by simp [putTh_r]) (by simp [putTh_r]) (by simp [putTh_r]) (by simp [putTh_r]) q0 q2 hcb hsb (by omega)) (by first | decide | assumption | (simp only [gcnt_4, gcnt_1, gcnt_2, gcnt_3, gcnt_12, gcnt_13, gcnt_16]; omega)) rfl rfl (Nat.le_of_ble_eq_true rfl) dX7_book_79 ?_
                refine r_iinc5 hR (nI 1) (by decide) (fun _ h => by first | (cases h; rfl) | exact absurd h (by simp)) dX7_book_82 ?_
                try rw [nI_add]
                refine r_goto hR 44 dX7_book_85 (by decide) ?_
                omega
          | succ j ih =>
            intro i  hij 
            have p0 : (putTh (putL M 13 s (fun j => cutB (ab A s) (lN (thg (dayN j (aS A)) t 3))) i) 24 (thg (aS A) t 0) (thg (dayN i (aS A)) t 1) (thg (aS A) t 2) (thg (dayN i (aS A)) t 3)).1 12 s 0 = nI (ab A s) := by rw [putTh_r]; simp [putL_1, g0]
            have p1 : (putTh (putL M 13 s (fun j => cutB (ab A s) (lN (thg (dayN j (aS A)) t 3))) i) 24 (thg (aS A) t 0) (thg (dayN i (aS A)) t 1) (thg (aS A) t 2) (thg (dayN i (aS A)) t 3)).1 12 s 1 = nI (az A s) := by rw [putTh_r]; simp [putL_1, g1]
            have hsB : seaP (putTh (putL M 13 s (fun j => cutB (ab A s) (lN (thg (dayN j (aS A)) t 3))) (i + 1)) 24 (thg (aS A) t 0) (thg (dayN i (aS A)) t 1) (thg (aS A) t 2) (thg (dayN i (aS A)) t 3)) 0 (aS A) := seaP_eqX (eqX_putTh _ (by decide)) w3 (seaP_rows (fun _ _ => rfl) hc.1)
            obtain ⟨hcb, hsb⟩ := day_b (d := i) hwf htt
            refine r_iload5 hR dX7_book_44 ?_
            refine r_aload4 hR dX7_book_46 ?_
            refine r_get hR (by first | decide | assumption | (simp only [gcnt_4, gcnt_1, gcnt_2, gcnt_3, gcnt_12, gcnt_13, gcnt_16]; omega)) fl_X7_233 rfl rfl dX7_book_48 ?_
            try simp only [p1]
            refine r_icmp_ge hR 88 dX7_book_51 (by decide) (fun c51 => ?_) (fun c51 => ?_)
            · try simp (disch := omega) only [nI_ltI, nI_leI, nI_eq, bI_0, Decidable.not_not, lc_lt, lc_gt, lc_ge, lc_le, lc_eq, i64_toInt] at c51
              try simp (disch := omega) only [cv_lt, cv_le, cv_eq, nI_toInt, cv_0] at c51
              first
              | omega
              | refine r_aload4 hR dX7_book_88 ?_
                refine r_get hR (by first | decide | assumption | (simp only [gcnt_4, gcnt_1, gcnt_2, gcnt_3, gcnt_12, gcnt_13, gcnt_16]; omega)) fl_X7_233 rfl rfl dX7_book_90 ?_
                try simp only [p1]
                refine r_iret hR dX7_book_93 ?_
                obtain rfl : i = az A s := by omega
                unfold Qc
                rw [e]
                refine ⟨rfl, clsP_sh hc (fun r a b i z => (eqX_putTh _ (by decide)).1 r i z) w3 hK8 (fun u hu => ?_), fun r hr => ⟨?_, ?_⟩⟩
                · refine ⟨by rw [putTh_r]; simp [putL_1]; exact (hc6 u hu).1, by rw [putTh_r]; simp [putL_1]; exact (hc6 u hu).2.1, fun j hj => ?_⟩
                  show (putL M 13 s _ _).2 13 u j = _
                  rw [putL_r]
                  by_cases q : u = s
                  · subst q
                    rw [vg_s]
                    by_cases q9 : j < az A u
                    · rw [if_pos ⟨rfl, rfl, q9⟩, if_pos q9]
                    · rw [if_neg (fun h => q9 h.2.2), if_neg q9]
                      exact g2 j hj
                  · rw [if_neg (fun h => q h.2.1), vg_o q]
                    exact (hc6 u hu).2.2 j hj
                · funext i
                  exact (eqX_putTh _ (by decide)).1 r i (by unfold scr; omega)
                · funext i k
                  show (putL M 13 s _ _).2 r i k = _
                  rw [putL_r, if_neg (by omega)]
            · try simp (disch := omega) only [nI_ltI, nI_leI, nI_eq, bI_0, Decidable.not_not, lc_lt, lc_gt, lc_ge, lc_le, lc_eq, i64_toInt] at c51
              try simp (disch := omega) only [cv_lt, cv_le, cv_eq, nI_toInt, cv_0] at c51
              first
              | omega
              | refine r_aload4 hR dX7_book_54 ?_
                refine r_iload5 hR dX7_book_56 ?_
                refine r_aload0 hR dX7_book_58 ?_
                refine r_get hR (by first | decide | assumption | (simp only [gcnt_4, gcnt_1, gcnt_2, gcnt_3, gcnt_12, gcnt_13, gcnt_16]; omega)) fl_X7_29 rfl rfl dX7_book_59 ?_
                try simp only [p1]
                refine r_get hR (by first | decide | assumption | (simp only [gcnt_4, gcnt_1, gcnt_2, gcnt_3, gcnt_12, gcnt_13, gcnt_16]; omega)) fl_X7_140 rfl rfl dX7_book_62 ?_
                try simp only [p1]
                refine r_nm (nI (thg (dayN i (aS A)) t 3)) (by simp [putTh_r]) ?_
                refine r_i2l hR dX7_book_65 ?_
                rw [nI_l (by omega)]
                refine r_cv2u hR kv_X7_244 (by decide) (t_X2_put (by omega) p0 hb9 p1 hz4 (by omega)) (by first | decide | assumption | (simp only [gcnt_4, gcnt_1, gcnt_2, gcnt_3, gcnt_12, gcnt_13, gcnt_16]; omega)) rfl rfl (Nat.le_of_ble_eq_true rfl) dX7_book_66 ?_
                rw [setl_putTh, putL_grow M 13 s (fun j => cutB (ab A s) (lN (thg (dayN j (aS A)) t 3))) i]
                refine r_aload0 hR dX7_book_69 ?_
                refine r_get hR (by first | decide | assumption | (simp only [gcnt_4, gcnt_1, gcnt_2, gcnt_3, gcnt_12, gcnt_13, gcnt_16]; omega)) fl_X7_10 rfl rfl dX7_book_70 ?_
                try simp only [p1]
                refine r_aload0 hR dX7_book_73 ?_
                refine r_get hR (by first | decide | assumption | (simp only [gcnt_4, gcnt_1, gcnt_2, gcnt_3, gcnt_12, gcnt_13, gcnt_16]; omega)) fl_X7_29 rfl rfl dX7_book_74 ?_
                try simp only [p1]
                refine r_iload5 hR dX7_book_77 ?_
                refine r_cv2u hR kv_X7_185 (by decide) (t_X1_carry (by decide) hsB hwf (by decide) (by simp [putTh_r]) (by simp [putTh_r]) (by simp [putTh_r]) (by simp [putTh_r]) q0 q2 hcb hsb (by omega)) (by first | decide | assumption | (simp only [gcnt_4, gcnt_1, gcnt_2, gcnt_3, gcnt_12, gcnt_13, gcnt_16]; omega)) rfl rfl (Nat.le_of_ble_eq_true rfl) dX7_book_79 ?_
                refine r_iinc5 hR (nI 1) (by decide) (fun _ h => by first | (cases h; rfl) | exact absurd h (by simp)) dX7_book_82 ?_
                try rw [nI_add]
                refine r_goto hR 44 dX7_book_85 (by decide) ?_
                rw [putTh_step, ← day_c htt, ← day_s htt]
                exact ih (i + 1) (by omega)
        refine r_aload0 hR dX7_book_0 ?_
        refine r_iload1 hR dX7_book_1 ?_
        refine r_iload2 hR dX7_book_2 ?_
        refine r_cv2v hR kv_X7_261 (by decide) (t_X7_sheetFinding hc hw) (by first | decide | assumption | (simp only [gcnt_4, gcnt_1, gcnt_2, gcnt_3, gcnt_12, gcnt_13, gcnt_16]; omega)) rfl rfl (Nat.le_of_ble_eq_true rfl) dX7_book_3 ?_
        rw [hs]
        refine r_istore3 hR (fun _ h => by first | (cases h; rfl) | exact absurd h (by simp)) dX7_book_6 ?_
        refine r_iload3 hR dX7_book_7 ?_
        refine r_if_eq hR 17 dX7_book_8 (by decide) (fun c8 => ?_) (fun c8 => absurd rfl c8)
        refine r_aload0 hR dX7_book_17 ?_
        refine r_get hR (by first | decide | assumption | (simp only [gcnt_4, gcnt_1, gcnt_2, gcnt_3, gcnt_12, gcnt_13, gcnt_16]; omega)) fl_X7_68 rfl rfl dX7_book_18 ?_
        try simp only [s0, s2, s3, s4]
        refine r_iload1 hR dX7_book_21 ?_
        refine r_aald hR (t0 := 2) (by first | decide | assumption | (simp only [gcnt_4, gcnt_1, gcnt_2, gcnt_3, gcnt_12, gcnt_13, gcnt_16]; omega)) rfl rfl rfl (by omega) (by decide) rfl dX7_book_22 ?_
        refine r_astore4 hR (fun _ h => by first | (cases h; rfl) | exact absurd h (by simp)) dX7_book_23 ?_
        refine r_aload0 hR dX7_book_25 ?_
        refine r_get hR (by first | decide | assumption | (simp only [gcnt_4, gcnt_1, gcnt_2, gcnt_3, gcnt_12, gcnt_13, gcnt_16]; omega)) fl_X7_29 rfl rfl dX7_book_26 ?_
        try simp only [s0, s2, s3, s4]
        refine r_aload0 hR dX7_book_29 ?_
        refine r_get hR (by first | decide | assumption | (simp only [gcnt_4, gcnt_1, gcnt_2, gcnt_3, gcnt_12, gcnt_13, gcnt_16]; omega)) fl_X7_10 rfl rfl dX7_book_30 ?_
        try simp only [s0, s2, s3, s4]
        refine r_get hR (by first | decide | assumption | (simp only [gcnt_4, gcnt_1, gcnt_2, gcnt_3, gcnt_12, gcnt_13, gcnt_16]; omega)) fl_X7_124 rfl rfl dX7_book_33 ?_
        try simp only [s0, s2, s3, s4]
        refine r_iload2 hR dX7_book_36 ?_
        refine r_aald hR (t0 := 3) (by first | decide | assumption | (simp only [gcnt_4, gcnt_1, gcnt_2, gcnt_3, gcnt_12, gcnt_13, gcnt_16]; omega)) rfl rfl rfl (by omega) (by decide) rfl dX7_book_37 ?_
        refine r_cv1u hR kv_X7_181 (by decide) (t_X5_become (by decide) (by omega)) (by first | decide | assumption | (simp only [gcnt_4, gcnt_1, gcnt_2, gcnt_3, gcnt_12, gcnt_13, gcnt_16]; omega)) rfl rfl (Nat.le_of_ble_eq_true rfl) dX7_book_38 ?_
        rw [k0, k1, k2, k3]
        refine r_mem (M2 := (putTh (putL M 13 s (fun j => cutB (ab A s) (lN (thg (dayN j (aS A)) t 3))) 0) 24 (thg (aS A) t 0) (thg (dayN 0 (aS A)) t 1) (thg (aS A) t 2) (thg (dayN 0 (aS A)) t 3))) (by rw [putL_z]; rfl) ?_
        refine r_iconst hR (nI 0) (by decide) dX7_book_41 ?_
        refine r_istore5 hR (fun _ h => by first | (cases h; rfl) | exact absurd h (by simp)) dX7_book_42 ?_
        exact L (az A s) 0 (by omega)
      · have hs : shF A x y = -1000000001 := by unfold shF; rw [if_pos h1, if_neg h2, if_neg h3]
        refine r_aload0 hR dX7_book_0 ?_
        refine r_iload1 hR dX7_book_1 ?_
        refine r_iload2 hR dX7_book_2 ?_
        refine r_cv2v hR kv_X7_261 (by decide) (t_X7_sheetFinding hc hw) (by first | decide | assumption | (simp only [gcnt_4, gcnt_1, gcnt_2, gcnt_3, gcnt_12, gcnt_13, gcnt_16]; omega)) rfl rfl (Nat.le_of_ble_eq_true rfl) dX7_book_3 ?_
        rw [hs]
        refine r_istore3 hR (fun _ h => by first | (cases h; rfl) | exact absurd h (by simp)) dX7_book_6 ?_
        refine r_iload3 hR dX7_book_7 ?_
        refine r_if_eq hR 17 dX7_book_8 (by decide) (fun c8 => absurd c8 (by decide)) (fun c8 => ?_)
        refine r_aload0 hR dX7_book_11 ?_
        refine r_iload3 hR dX7_book_12 ?_
        refine r_cv1v hR kv_X7_82 (by decide) (t_X7_findingC (n := 0) (by decide) (by decide)) (by first | decide | assumption | (simp only [gcnt_4, gcnt_1, gcnt_2, gcnt_3, gcnt_12, gcnt_13, gcnt_16]; omega)) rfl rfl (Nat.le_of_ble_eq_true rfl) dX7_book_13 ?_
        refine r_iret hR dX7_book_16 ?_
        refine Qc_fnd hc (by decide) ?_
        unfold oBook
        rw [if_pos h1, if_neg h2, if_neg h3]
  · have hs : shF A x y = -1000000001 := by unfold shF; rw [if_neg h1]
    refine r_aload0 hR dX7_book_0 ?_
    refine r_iload1 hR dX7_book_1 ?_
    refine r_iload2 hR dX7_book_2 ?_
    refine r_cv2v hR kv_X7_261 (by decide) (t_X7_sheetFinding hc hw) (by first | decide | assumption | (simp only [gcnt_4, gcnt_1, gcnt_2, gcnt_3, gcnt_12, gcnt_13, gcnt_16]; omega)) rfl rfl (Nat.le_of_ble_eq_true rfl) dX7_book_3 ?_
    rw [hs]
    refine r_istore3 hR (fun _ h => by first | (cases h; rfl) | exact absurd h (by simp)) dX7_book_6 ?_
    refine r_iload3 hR dX7_book_7 ?_
    refine r_if_eq hR 17 dX7_book_8 (by decide) (fun c8 => absurd c8 (by decide)) (fun c8 => ?_)
    refine r_aload0 hR dX7_book_11 ?_
    refine r_iload3 hR dX7_book_12 ?_
    refine r_cv1v hR kv_X7_82 (by decide) (t_X7_findingC (n := 0) (by decide) (by decide)) (by first | decide | assumption | (simp only [gcnt_4, gcnt_1, gcnt_2, gcnt_3, gcnt_12, gcnt_13, gcnt_16]; omega)) rfl rfl (Nat.le_of_ble_eq_true rfl) dX7_book_13 ?_
    refine r_iret hR dX7_book_16 ?_
    refine Qc_fnd hc (by decide) ?_
    unfold oBook
    rw [if_neg h1]

set_option maxHeartbeats 4000000 in
set_option maxRecDepth 100000 in
theorem t_X7_walkerMakes {G : gG} {M : gM} {A : gA} {s t : Nat} {S : Nat → Nat} (hc : clsP M A) (hw : wfA A) (hs4 : s < 4) (hlo : ∀ x, x < 11 → S x = aS A x) (hwf2 : wfS S) (htt : t < S 3) (hk : M.1 4 24 0 = nI (thg S t 0)) (hce : M.1 4 24 1 = nI (thg S t 1)) (hf : M.1 4 24 2 = nI (thg S t 2)) (hsu : M.1 4 24 3 = nI (thg S t 3)) : Ct G mX7_walkerMakes 5 [.ref (ad G 0 0), .ref (ad G 12 s)] M (fun v M' => v = some (.int (bI (isBk S t (an A s) (az A s) = true))) ∧ eqX M M') := by
  obtain ⟨hwf, hday, hwk, hk2, hl, hT, hsh⟩ := id hw
  obtain ⟨w0, w1, w2, w3, wr, wt⟩ := id hwf
  obtain ⟨s0, s2, s3, s4, sr, sth⟩ := id hc.1
  have hK8 : ak A = 1 → aK A 3 ≤ 8 := fun z => (hwk z).1.2.2.2.1
  refine Ct.of (by decide +kernel) (k := 1) (ls0 := [some (.ref (ad G 0 0)), some (.ref (ad G 12 s)), none]) rfl rfl (fun _ _ => trivial) ?_
  intro P hR
  have hc3 := hc.2.2.1
  have hc4 := hc.2.2.2.1
  have hc5 := hc.2.2.2.2.1
  have hc6 := hc.2.2.2.2.2.1
  have hc7 := hc.2.2.2.2.2.2
  obtain ⟨g0, g1, g2⟩ := hc6 s (by omega)
  have hb9 : ab A s < 100 := by have := (hsh s (by omega)).1; omega
  have hz4 := (hsh s (by omega)).2
  have L : ∀ (j i : Nat), i + j = az A s → isBk S t (an A s) i = true → P 2 [some (.ref (ad G 0 0)), some (.ref (ad G 12 s)), some (.int (nI i))] [] (putTh M 24 (thg S t 0) (thg (dayN i S) t 1) (thg S t 2) (thg (dayN i S) t 3)) := by
    intro j
    induction j with
    | zero =>
      intro i  hij hb2
      have p1 : (putTh M 24 (thg S t 0) (thg (dayN i S) t 1) (thg S t 2) (thg (dayN i S) t 3)).1 12 s 1 = nI (az A s) := by rw [putTh_r]; simp [g1]
      have hsB : seaP (putTh M 24 (thg S t 0) (thg (dayN i S) t 1) (thg S t 2) (thg (dayN i S) t 3)) 0 (aS A) := seaP_eqX (eqX_putTh _ (by decide)) w3 hc.1
      obtain ⟨hcb, hsb⟩ := day_b (d := i) hwf2 htt
      have q0 : thg S t 0 < 6 := by have := hwf2.2.2.2.2.2 t htt; unfold thg; rw [Nat.add_zero]; omega
      have q2 : thg S t 2 < 8 := by have := hwf2.2.2.2.2.2 t htt; unfold thg; omega
      refine r_iload2 hR dX7_walkerMakes_2 ?_
      refine r_aload1 hR dX7_walkerMakes_3 ?_
      refine r_get hR (by first | decide | assumption | (simp only [gcnt_4, gcnt_1, gcnt_2, gcnt_3, gcnt_12, gcnt_13, gcnt_16]; omega)) fl_X7_233 rfl rfl dX7_walkerMakes_4 ?_
      try simp only [p1]
      refine r_icmp_ge hR 48 dX7_walkerMakes_7 (by decide) (fun c7 => ?_) (fun c7 => ?_)
      · try simp (disch := omega) only [nI_ltI, nI_leI, nI_eq, bI_0, Decidable.not_not, lc_lt, lc_gt, lc_ge, lc_le, lc_eq, i64_toInt] at c7
        try simp (disch := omega) only [cv_lt, cv_le, cv_eq, nI_toInt, cv_0] at c7
        first
        | omega
        | refine r_iconst hR (nI 1) (by decide) dX7_walkerMakes_48 ?_
          refine r_zret hR dX7_walkerMakes_49 rfl ?_
          obtain rfl : i = az A s := by omega
          exact ⟨by rw [bI_t hb2], eqX_putTh M (by decide)⟩
      · try simp (disch := omega) only [nI_ltI, nI_leI, nI_eq, bI_0, Decidable.not_not, lc_lt, lc_gt, lc_ge, lc_le, lc_eq, i64_toInt] at c7
        try simp (disch := omega) only [cv_lt, cv_le, cv_eq, nI_toInt, cv_0] at c7
        first
        | omega
        | refine r_aload1 hR dX7_walkerMakes_10 ?_
          refine r_get hR (by first | decide | assumption | (simp only [gcnt_4, gcnt_1, gcnt_2, gcnt_3, gcnt_12, gcnt_13, gcnt_16]; omega)) fl_X7_240 rfl rfl dX7_walkerMakes_11 ?_
          try simp only [p1]
          refine r_iload2 hR dX7_walkerMakes_14 ?_
          refine r_lald hR (by first | decide | assumption | (simp only [gcnt_4, gcnt_1, gcnt_2, gcnt_3, gcnt_12, gcnt_13, gcnt_16]; omega)) rfl rfl (by omega) (by decide) dX7_walkerMakes_15 ?_
          rw [show (putTh M 24 (thg S t 0) (thg (dayN i S) t 1) (thg S t 2) (thg (dayN i S) t 3)).2 = M.2 from rfl, g2 i (by omega)]
          refine r_aload0 hR dX7_walkerMakes_16 ?_
          refine r_get hR (by first | decide | assumption | (simp only [gcnt_4, gcnt_1, gcnt_2, gcnt_3, gcnt_12, gcnt_13, gcnt_16]; omega)) fl_X7_29 rfl rfl dX7_walkerMakes_17 ?_
          try simp only [p1]
          refine r_get hR (by first | decide | assumption | (simp only [gcnt_4, gcnt_1, gcnt_2, gcnt_3, gcnt_12, gcnt_13, gcnt_16]; omega)) fl_X7_140 rfl rfl dX7_walkerMakes_20 ?_
          try simp only [p1]
          refine r_nm (nI (thg (dayN i S) t 3)) (by simp [putTh_r]) ?_
          refine r_i2l hR dX7_walkerMakes_23 ?_
          rw [nI_l (by omega)]
          refine r_lcmp hR dX7_walkerMakes_24 ?_
          refine r_if_eq hR 30 dX7_walkerMakes_25 (by decide) (fun c25 => ?_) (fun c25 => ?_)
          · try simp (disch := omega) only [nI_ltI, nI_leI, nI_eq, bI_0, Decidable.not_not, lc_lt, lc_gt, lc_ge, lc_le, lc_eq, i64_toInt] at c25
            try simp (disch := omega) only [cv_lt, cv_le, cv_eq, nI_toInt, cv_0] at c25
            first
            | omega
            | refine r_aload0 hR dX7_walkerMakes_30 ?_
              refine r_get hR (by first | decide | assumption | (simp only [gcnt_4, gcnt_1, gcnt_2, gcnt_3, gcnt_12, gcnt_13, gcnt_16]; omega)) fl_X7_10 rfl rfl dX7_walkerMakes_31 ?_
              try simp only [p1]
              refine r_aload0 hR dX7_walkerMakes_34 ?_
              refine r_get hR (by first | decide | assumption | (simp only [gcnt_4, gcnt_1, gcnt_2, gcnt_3, gcnt_12, gcnt_13, gcnt_16]; omega)) fl_X7_29 rfl rfl dX7_walkerMakes_35 ?_
              try simp only [p1]
              refine r_iload2 hR dX7_walkerMakes_38 ?_
              refine r_cv2u hR kv_X7_185 (by decide) (t_X1_carry (by decide) hsB hwf (by decide) (by simp [putTh_r]) (by simp [putTh_r]) (by simp [putTh_r]) (by simp [putTh_r]) q0 q2 hcb hsb (by omega)) (by first | decide | assumption | (simp only [gcnt_4, gcnt_1, gcnt_2, gcnt_3, gcnt_12, gcnt_13, gcnt_16]; omega)) rfl rfl (Nat.le_of_ble_eq_true rfl) dX7_walkerMakes_39 ?_
              refine r_iinc2 hR (nI 1) (by decide) (fun _ h => by first | (cases h; rfl) | exact absurd h (by simp)) dX7_walkerMakes_42 ?_
              try rw [nI_add]
              refine r_goto hR 2 dX7_walkerMakes_45 (by decide) ?_
              omega
          · try simp (disch := omega) only [nI_ltI, nI_leI, nI_eq, bI_0, Decidable.not_not, lc_lt, lc_gt, lc_ge, lc_le, lc_eq, i64_toInt] at c25
            try simp (disch := omega) only [cv_lt, cv_le, cv_eq, nI_toInt, cv_0] at c25
            first
            | omega
            | refine r_iconst hR (nI 0) (by decide) dX7_walkerMakes_28 ?_
              refine r_zret hR dX7_walkerMakes_29 rfl ?_
              omega
    | succ j ih =>
      intro i  hij hb2
      have p1 : (putTh M 24 (thg S t 0) (thg (dayN i S) t 1) (thg S t 2) (thg (dayN i S) t 3)).1 12 s 1 = nI (az A s) := by rw [putTh_r]; simp [g1]
      have hsB : seaP (putTh M 24 (thg S t 0) (thg (dayN i S) t 1) (thg S t 2) (thg (dayN i S) t 3)) 0 (aS A) := seaP_eqX (eqX_putTh _ (by decide)) w3 hc.1
      obtain ⟨hcb, hsb⟩ := day_b (d := i) hwf2 htt
      have q0 : thg S t 0 < 6 := by have := hwf2.2.2.2.2.2 t htt; unfold thg; rw [Nat.add_zero]; omega
      have q2 : thg S t 2 < 8 := by have := hwf2.2.2.2.2.2 t htt; unfold thg; omega
      refine r_iload2 hR dX7_walkerMakes_2 ?_
      refine r_aload1 hR dX7_walkerMakes_3 ?_
      refine r_get hR (by first | decide | assumption | (simp only [gcnt_4, gcnt_1, gcnt_2, gcnt_3, gcnt_12, gcnt_13, gcnt_16]; omega)) fl_X7_233 rfl rfl dX7_walkerMakes_4 ?_
      try simp only [p1]
      refine r_icmp_ge hR 48 dX7_walkerMakes_7 (by decide) (fun c7 => ?_) (fun c7 => ?_)
      · try simp (disch := omega) only [nI_ltI, nI_leI, nI_eq, bI_0, Decidable.not_not, lc_lt, lc_gt, lc_ge, lc_le, lc_eq, i64_toInt] at c7
        try simp (disch := omega) only [cv_lt, cv_le, cv_eq, nI_toInt, cv_0] at c7
        first
        | omega
        | refine r_iconst hR (nI 1) (by decide) dX7_walkerMakes_48 ?_
          refine r_zret hR dX7_walkerMakes_49 rfl ?_
          omega
      · try simp (disch := omega) only [nI_ltI, nI_leI, nI_eq, bI_0, Decidable.not_not, lc_lt, lc_gt, lc_ge, lc_le, lc_eq, i64_toInt] at c7
        try simp (disch := omega) only [cv_lt, cv_le, cv_eq, nI_toInt, cv_0] at c7
        first
        | omega
        | refine r_aload1 hR dX7_walkerMakes_10 ?_
          refine r_get hR (by first | decide | assumption | (simp only [gcnt_4, gcnt_1, gcnt_2, gcnt_3, gcnt_12, gcnt_13, gcnt_16]; omega)) fl_X7_240 rfl rfl dX7_walkerMakes_11 ?_
          try simp only [p1]
          refine r_iload2 hR dX7_walkerMakes_14 ?_
          refine r_lald hR (by first | decide | assumption | (simp only [gcnt_4, gcnt_1, gcnt_2, gcnt_3, gcnt_12, gcnt_13, gcnt_16]; omega)) rfl rfl (by omega) (by decide) dX7_walkerMakes_15 ?_
          rw [show (putTh M 24 (thg S t 0) (thg (dayN i S) t 1) (thg S t 2) (thg (dayN i S) t 3)).2 = M.2 from rfl, g2 i (by omega)]
          refine r_aload0 hR dX7_walkerMakes_16 ?_
          refine r_get hR (by first | decide | assumption | (simp only [gcnt_4, gcnt_1, gcnt_2, gcnt_3, gcnt_12, gcnt_13, gcnt_16]; omega)) fl_X7_29 rfl rfl dX7_walkerMakes_17 ?_
          try simp only [p1]
          refine r_get hR (by first | decide | assumption | (simp only [gcnt_4, gcnt_1, gcnt_2, gcnt_3, gcnt_12, gcnt_13, gcnt_16]; omega)) fl_X7_140 rfl rfl dX7_walkerMakes_20 ?_
          try simp only [p1]
          refine r_nm (nI (thg (dayN i S) t 3)) (by simp [putTh_r]) ?_
          refine r_i2l hR dX7_walkerMakes_23 ?_
          rw [nI_l (by omega)]
          refine r_lcmp hR dX7_walkerMakes_24 ?_
          refine r_if_eq hR 30 dX7_walkerMakes_25 (by decide) (fun c25 => ?_) (fun c25 => ?_)
          · try simp (disch := omega) only [nI_ltI, nI_leI, nI_eq, bI_0, Decidable.not_not, lc_lt, lc_gt, lc_ge, lc_le, lc_eq, i64_toInt] at c25
            try simp (disch := omega) only [cv_lt, cv_le, cv_eq, nI_toInt, cv_0] at c25
            first
            | omega
            | refine r_aload0 hR dX7_walkerMakes_30 ?_
              refine r_get hR (by first | decide | assumption | (simp only [gcnt_4, gcnt_1, gcnt_2, gcnt_3, gcnt_12, gcnt_13, gcnt_16]; omega)) fl_X7_10 rfl rfl dX7_walkerMakes_31 ?_
              try simp only [p1]
              refine r_aload0 hR dX7_walkerMakes_34 ?_
              refine r_get hR (by first | decide | assumption | (simp only [gcnt_4, gcnt_1, gcnt_2, gcnt_3, gcnt_12, gcnt_13, gcnt_16]; omega)) fl_X7_29 rfl rfl dX7_walkerMakes_35 ?_
              try simp only [p1]
              refine r_iload2 hR dX7_walkerMakes_38 ?_
              refine r_cv2u hR kv_X7_185 (by decide) (t_X1_carry (by decide) hsB hwf (by decide) (by simp [putTh_r]) (by simp [putTh_r]) (by simp [putTh_r]) (by simp [putTh_r]) q0 q2 hcb hsb (by omega)) (by first | decide | assumption | (simp only [gcnt_4, gcnt_1, gcnt_2, gcnt_3, gcnt_12, gcnt_13, gcnt_16]; omega)) rfl rfl (Nat.le_of_ble_eq_true rfl) dX7_walkerMakes_39 ?_
              refine r_iinc2 hR (nI 1) (by decide) (fun _ h => by first | (cases h; rfl) | exact absurd h (by simp)) dX7_walkerMakes_42 ?_
              try rw [nI_add]
              refine r_goto hR 2 dX7_walkerMakes_45 (by decide) ?_
              have hne : an A s i = lN (thg (dayN i S) t 3) := Int64.toInt_inj.mp c25
              rw [putTh_step, ← hlo 1 (by omega), ← hlo 0 (by omega), show blow (aS A) (S 0 + i) = blow S (S 0 + i) from blow_lo hlo _, ← day_c htt, ← day_s htt]
              exact ih (i + 1) (by omega) (by unfold isBk; rw [hb2, hne]; simp)
          · try simp (disch := omega) only [nI_ltI, nI_leI, nI_eq, bI_0, Decidable.not_not, lc_lt, lc_gt, lc_ge, lc_le, lc_eq, i64_toInt] at c25
            try simp (disch := omega) only [cv_lt, cv_le, cv_eq, nI_toInt, cv_0] at c25
            first
            | omega
            | refine r_iconst hR (nI 0) (by decide) dX7_walkerMakes_28 ?_
              refine r_zret hR dX7_walkerMakes_29 rfl ?_
              have hne : ¬ an A s i = lN (thg (dayN i S) t 3) := fun q => c25 (by rw [q])
              exact ⟨by rw [bI_f (isBk_f hne (by omega))], eqX_putTh M (by decide)⟩
  refine r_iconst hR (nI 0) (by decide) dX7_walkerMakes_0 ?_
  refine r_istore2 hR (fun _ h => by first | (cases h; rfl) | exact absurd h (by simp)) dX7_walkerMakes_1 ?_
  refine r_mem (M2 := (putTh M 24 (thg S t 0) (thg (dayN 0 S) t 1) (thg S t 2) (thg (dayN 0 S) t 3))) (putTh_id hk hce hf hsu).symm ?_
  exact L (az A s) 0 (by omega) rfl

