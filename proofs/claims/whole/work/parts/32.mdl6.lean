theorem mdlP_sh {M M' : gM} {A : gA} {b z : Nat → Nat} {n : Nat → Nat → Int64} (h : mdlP M A) (hr : ∀ r i k, ¬ r = 20 → ¬ scY r i k → M'.1 r i k = M.1 r i k) (hs : ∀ s, s < 4 → M'.1 20 0 s = nI (b s) ∧ M'.1 20 1 s = nI (z s) ∧ ∀ j, j < 40 → M'.2 21 0 (40 * s + j) = n s j) : mdlP M' (sB A b z n) := by
  obtain ⟨c1, c2, c3, c4, c5, c6, c7⟩ := h
  refine ⟨fun k hk => ?_, fun z k hk => ?_, ?_, ?_, ?_, hs, ?_⟩
  · rw [hr 16 0 k (by omega) (by unfold scY; omega)]; exact c1 k hk
  · rw [hr 16 1 k (by omega) (by unfold scY; omega)]; exact c2 z k hk
  · rw [hr 15 0 3 (by omega) (by unfold scY; omega)]; exact c3
  · rw [hr 15 0 8 (by omega) (by unfold scY; omega)]; exact c4
  · intro j hj; rw [hr 19 0 j (by omega) (by unfold scY; omega)]; exact c5 j hj
  · intro n hn; rw [hr 17 0 n (by omega) (by unfold scY; omega)]; exact c7 n hn
theorem mdlP_tape {M M' : gM} {A : gA} {T : Nat → Nat} {l : Nat} (h : mdlP M A) (hr : ∀ r i k, ¬ r = 19 → ¬ (r = 15 ∧ k = 8) → M'.1 r i k = M.1 r i k) (h2 : M'.2 = M.2) (hl : M'.1 15 0 8 = nI l) (hT : ∀ j, j < l → M'.1 19 0 j = nI (T j)) : mdlP M' (sT A T l) := by
  obtain ⟨c1, c2, c3, c4, c5, c6, c7⟩ := h
  refine ⟨fun k hk => ?_, fun z k hk => ?_, ?_, hl, hT, ?_, ?_⟩
  · rw [hr _ _ _ (by omega) (by omega)]; exact c1 k hk
  · rw [hr _ _ _ (by omega) (by omega)]; exact c2 z k hk
  · rw [hr _ _ _ (by omega) (by omega)]; exact c3
  · intro s hs; rw [hr _ _ _ (by omega) (by omega), hr _ _ _ (by omega) (by omega), h2]; exact c6 s hs
  · intro n hn; rw [hr _ _ _ (by omega) (by omega)]; exact c7 n hn
theorem mdlP_kept {M : gM} {A : gA} (h : mdlP M A) (h3 : aS A 3 ≤ 8) : mdlP (seti (cpR M 0 1 43) 15 0 3 (nI 1)) (sK A (aS A) 1) := by
  obtain ⟨c1, c2, c3, c4, c5, c6, c7⟩ := h
  have e : ∀ r i k, ¬ (r = 15 ∧ k = 3) → ¬ (r = 16 ∧ i = 1) → (seti (cpR M 0 1 43) 15 0 3 (nI 1)).1 r i k = M.1 r i k := fun r i k z y => by rw [seti_r, if_neg (by omega), cpR_r, if_neg (by omega)]
  refine ⟨fun k hk => ?_, fun z k hk => ?_, ?_, ?_, ?_, ?_, ?_⟩
  · rw [e _ _ _ (by omega) (by omega)]; exact c1 k hk
  · have hk : k < 11 + 4 * aS A 3 := hk
    rw [seti_r, if_neg (by omega), cpR_r, if_pos ⟨rfl, rfl, by omega⟩]; exact c1 k hk
  · rw [seti_r, if_pos ⟨rfl, rfl, rfl⟩]; rfl
  · rw [e _ _ _ (by omega) (by omega)]; exact c4
  · intro j hj; rw [e _ _ _ (by omega) (by omega)]; exact c5 j hj
  · intro s hs; rw [e _ _ _ (by omega) (by omega), e _ _ _ (by omega) (by omega)]; exact c6 s hs
  · intro n hn; rw [e _ _ _ (by omega) (by omega)]; exact c7 n hn
theorem mdlP_tear {M : gM} {A : gA} (h : mdlP M A) : mdlP (seti M 15 0 3 (nI 0)) (sK A (aK A) 0) := by
  obtain ⟨c1, c2, c3, c4, c5, c6, c7⟩ := h
  have e : ∀ r i k, ¬ (r = 15 ∧ k = 3) → (seti M 15 0 3 (nI 0)).1 r i k = M.1 r i k := fun r i k z => by rw [seti_r, if_neg (by omega)]
  refine ⟨fun k hk => ?_, fun q => absurd q (by show ¬ (0 : Nat) = 1; decide), ?_, ?_, ?_, ?_, ?_⟩
  · rw [e _ _ _ (by omega)]; exact c1 k hk
  · rw [seti_r, if_pos ⟨rfl, rfl, rfl⟩]; rfl
  · rw [e _ _ _ (by omega)]; exact c4
  · intro j hj; rw [e _ _ _ (by omega)]; exact c5 j hj
  · intro s hs; rw [e _ _ _ (by omega), e _ _ _ (by omega)]; exact c6 s hs
  · intro n hn; rw [e _ _ _ (by omega)]; exact c7 n hn
theorem cpR_160 (M : gM) (n : Nat) : ∀ r i j, ¬ (r = 16 ∧ i = 0) → (cpR M 1 0 n).1 r i j = M.1 r i j := fun r i j h => by rw [cpR_r, if_neg (by omega)]
theorem keepC_cpR (M : gM) (i j n : Nat) : keepC M (cpR M i j n) := fun r hr => ⟨by funext i' k; rw [cpR_r, if_neg (by omega)], rfl⟩
theorem row_undo {M : gM} {S : Nat → Nat} (h : rowP M 1 S) (h3 : S 3 ≤ 8) : rowP (cpR M 1 0 43) 0 S := fun k hk => by rw [cpR_r, if_pos ⟨rfl, rfl, by omega⟩]; exact h k hk
set_option maxHeartbeats 4000000 in
set_option maxRecDepth 100000 in
theorem t_X8_wipe {G : gG} {M : gM} {A : gA} (hc : mdlP M A) (hw : wfA A) : Ct G mX8_wipe 0 [.ref (ad G 15 0)] M (Qm M (oWipe A)) := by
  obtain ⟨hwf, hday, hwk, hk2, hl, hT, hsh⟩ := id hw
  obtain ⟨w0, w1, w2, w3, wr, wt⟩ := id hwf
  obtain ⟨h, hKp, hkk, hlp, htp, hshp, hfp⟩ := id hc
  refine Ct.of (by decide +kernel) (k := 1) (ls0 := [some (.ref (ad G 15 0)), none]) rfl rfl (fun _ _ => trivial) ?_
  intro P hR
  refine r_aload0 hR dX8_wipe_0 ?_
  refine r_get hR (by first | decide | assumption | (simp only [gcnt_4, gcnt_1, gcnt_2, gcnt_3, gcnt_12, gcnt_13, gcnt_16]; omega)) fl_X8_145 rfl rfl dX8_wipe_1 ?_
  rw [hlp]
  refine r_istore1 hR (fun _ h => by first | (cases h; rfl) | exact absurd h (by simp)) dX8_wipe_4 ?_
  refine r_aload0 hR dX8_wipe_5 ?_
  refine r_iconst hR (nI 0) (by decide) dX8_wipe_6 ?_
  refine r_puti hR (by first | decide | assumption | (simp only [gcnt_4, gcnt_1, gcnt_2, gcnt_3, gcnt_12, gcnt_13, gcnt_16]; omega)) fp_X8_145 rfl rfl (Nat.le_of_ble_eq_true rfl) rfl rfl dX8_wipe_7 ?_
  refine r_iload1 hR dX8_wipe_10 ?_
  refine r_iret hR dX8_wipe_11 ?_
  exact ⟨rfl, mdlP_tape hc (fun r i k a b => by rw [seti_r, if_neg (by omega)]) rfl (by rw [seti_r, if_pos ⟨rfl, rfl, rfl⟩]) (fun j hj => absurd hj (by omega)), keepC_seti M _ _ _ (by decide)⟩

set_option maxHeartbeats 4000000 in
set_option maxRecDepth 100000 in
theorem t_X8_image {G : gG} {M : gM} {A : gA} (hc : mdlP M A) (hw : wfA A) : Ct G mX8_image 1 [.ref (ad G 15 0)] M (Qm M (oImage A)) := by
  obtain ⟨hwf, hday, hwk, hk2, hl, hT, hsh⟩ := id hw
  obtain ⟨w0, w1, w2, w3, wr, wt⟩ := id hwf
  obtain ⟨h, hKp, hkk, hlp, htp, hshp, hfp⟩ := id hc
  refine Ct.of (by decide +kernel) (k := 0) (ls0 := [some (.ref (ad G 15 0))]) rfl rfl (fun _ _ => trivial) ?_
  intro P hR
  refine r_aload0 hR dX8_image_0 ?_
  refine r_get hR (by first | decide | assumption | (simp only [gcnt_4, gcnt_1, gcnt_2, gcnt_3, gcnt_12, gcnt_13, gcnt_16]; omega)) fl_X8_9 rfl rfl dX8_image_1 ?_
  refine r_aload0 hR dX8_image_4 ?_
  refine r_get hR (by first | decide | assumption | (simp only [gcnt_4, gcnt_1, gcnt_2, gcnt_3, gcnt_12, gcnt_13, gcnt_16]; omega)) fl_X8_13 rfl rfl dX8_image_5 ?_
  refine r_cs2u hR ks_X8_120 (by decide) (t_X8_copyAll (by decide) (by decide) (by decide)) (Nat.le_of_ble_eq_true rfl) dX8_image_8 ?_
  refine r_aload0 hR dX8_image_11 ?_
  refine r_iconst hR (nI 1) (by decide) dX8_image_12 ?_
  refine r_puti hR (by first | decide | assumption | (simp only [gcnt_4, gcnt_1, gcnt_2, gcnt_3, gcnt_12, gcnt_13, gcnt_16]; omega)) fp_X8_222 rfl rfl (Nat.le_of_ble_eq_true rfl) rfl rfl dX8_image_13 ?_
  refine r_iconst hR (nI 1) (by decide) dX8_image_16 ?_
  refine r_iret hR dX8_image_17 ?_
  exact ⟨rfl, mdlP_kept hc w3, (keepC_cpR M _ _ _).tr (keepC_seti _ _ _ _ (by decide))⟩

set_option maxHeartbeats 4000000 in
set_option maxRecDepth 100000 in
theorem t_X8_undo {G : gG} {M : gM} {A : gA} (hc : mdlP M A) (hw : wfA A) : Ct G mX8_undo 1 [.ref (ad G 15 0)] M (Qm M (oUndo A)) := by
  obtain ⟨hwf, hday, hwk, hk2, hl, hT, hsh⟩ := id hw
  obtain ⟨w0, w1, w2, w3, wr, wt⟩ := id hwf
  obtain ⟨h, hKp, hkk, hlp, htp, hshp, hfp⟩ := id hc
  refine Ct.of (by decide +kernel) (k := 0) (ls0 := [some (.ref (ad G 15 0))]) rfl rfl (fun _ _ => trivial) ?_
  intro P hR
  refine r_aload0 hR dX8_undo_0 ?_
  refine r_get hR (by first | decide | assumption | (simp only [gcnt_4, gcnt_1, gcnt_2, gcnt_3, gcnt_12, gcnt_13, gcnt_16]; omega)) fl_X8_222 rfl rfl dX8_undo_1 ?_
  rw [hkk]
  refine r_if_ne hR 14 dX8_undo_4 (by decide) (fun c4 => ?_) (fun c4 => ?_)
  · try simp (disch := omega) only [nI_ltI, nI_leI, nI_eq, bI_0, Decidable.not_not, lc_lt, lc_gt, lc_ge, lc_le, lc_eq, i64_toInt] at c4
    try simp (disch := omega) only [cv_lt, cv_le, cv_eq, nI_toInt, cv_0] at c4
    first
    | omega
    | refine r_aload0 hR dX8_undo_14 ?_
      refine r_get hR (by first | decide | assumption | (simp only [gcnt_4, gcnt_1, gcnt_2, gcnt_3, gcnt_12, gcnt_13, gcnt_16]; omega)) fl_X8_13 rfl rfl dX8_undo_15 ?_
      refine r_aload0 hR dX8_undo_18 ?_
      refine r_get hR (by first | decide | assumption | (simp only [gcnt_4, gcnt_1, gcnt_2, gcnt_3, gcnt_12, gcnt_13, gcnt_16]; omega)) fl_X8_9 rfl rfl dX8_undo_19 ?_
      refine r_cs2u hR ks_X8_120 (by decide) (t_X8_copyAll (by decide) (by decide) (by decide)) (Nat.le_of_ble_eq_true rfl) dX8_undo_22 ?_
      refine r_aload0 hR dX8_undo_25 ?_
      refine r_get hR (by first | decide | assumption | (simp only [gcnt_4, gcnt_1, gcnt_2, gcnt_3, gcnt_12, gcnt_13, gcnt_16]; omega)) fl_X8_9 rfl rfl dX8_undo_26 ?_
      refine r_iconst hR (nI 3) (by decide) dX8_undo_29 ?_
      refine r_iald hR (by first | decide | assumption | (simp only [gcnt_4, gcnt_1, gcnt_2, gcnt_3, gcnt_12, gcnt_13, gcnt_16]; omega)) rfl rfl (by omega) (by decide) dX8_undo_30 ?_
      rw [cpR_r, if_pos ⟨rfl, rfl, by omega⟩, hKp (by omega) 3 (by omega)]
      refine r_iret hR dX8_undo_31 ?_
      unfold oUndo
      rw [if_pos (by omega)]
      exact ⟨rfl, mdlP_sea hc (cpR_160 M 43) rfl (row_undo (hKp (by omega)) (hwk (by omega)).1.2.2.2.1), keepC_cpR M _ _ _⟩
  · try simp (disch := omega) only [nI_ltI, nI_leI, nI_eq, bI_0, Decidable.not_not, lc_lt, lc_gt, lc_ge, lc_le, lc_eq, i64_toInt] at c4
    try simp (disch := omega) only [cv_lt, cv_le, cv_eq, nI_toInt, cv_0] at c4
    first
    | omega
    | refine r_aload0 hR dX8_undo_7 ?_
      refine r_ldc hR ct_X8_42 dX8_undo_8 ?_
      refine r_cv1v hR kv_X8_43 (by decide) (t_X8_findsC (n := 3) (by decide) (by decide)) (by first | decide | assumption | (simp only [gcnt_4, gcnt_1, gcnt_2, gcnt_3, gcnt_12, gcnt_13, gcnt_16]; omega)) rfl rfl (Nat.le_of_ble_eq_true rfl) dX8_undo_10 ?_
      refine r_iret hR dX8_undo_13 ?_
      exact Qm_fnd hc (by decide) (by unfold oUndo; rw [if_neg (by omega)])

set_option maxHeartbeats 4000000 in
set_option maxRecDepth 100000 in
theorem t_X8_tear {G : gG} {M : gM} {A : gA} (hc : mdlP M A) (hw : wfA A) : Ct G mX8_tear 0 [.ref (ad G 15 0)] M (Qm M (oTear A)) := by
  obtain ⟨hwf, hday, hwk, hk2, hl, hT, hsh⟩ := id hw
  obtain ⟨w0, w1, w2, w3, wr, wt⟩ := id hwf
  obtain ⟨h, hKp, hkk, hlp, htp, hshp, hfp⟩ := id hc
  refine Ct.of (by decide +kernel) (k := 1) (ls0 := [some (.ref (ad G 15 0)), none]) rfl rfl (fun _ _ => trivial) ?_
  intro P hR
  have J12 : P 12 [some (.ref (ad G 15 0)), none] [.int (nI (ak A))] M := by
    refine r_istore1 hR (fun _ h => by first | (cases h; rfl) | exact absurd h (by simp)) dX8_tear_12 ?_
    refine r_aload0 hR dX8_tear_13 ?_
    refine r_iconst hR (nI 0) (by decide) dX8_tear_14 ?_
    refine r_puti hR (by first | decide | assumption | (simp only [gcnt_4, gcnt_1, gcnt_2, gcnt_3, gcnt_12, gcnt_13, gcnt_16]; omega)) fp_X8_222 rfl rfl (Nat.le_of_ble_eq_true rfl) rfl rfl dX8_tear_15 ?_
    refine r_iload1 hR dX8_tear_18 ?_
    refine r_iret hR dX8_tear_19 ?_
    exact ⟨rfl, mdlP_tear hc, keepC_seti M _ _ _ (by decide)⟩
  refine r_aload0 hR dX8_tear_0 ?_
  refine r_get hR (by first | decide | assumption | (simp only [gcnt_4, gcnt_1, gcnt_2, gcnt_3, gcnt_12, gcnt_13, gcnt_16]; omega)) fl_X8_222 rfl rfl dX8_tear_1 ?_
  rw [hkk]
  refine r_if_eq hR 11 dX8_tear_4 (by decide) (fun c4 => ?_) (fun c4 => ?_)
  · try simp (disch := omega) only [nI_ltI, nI_leI, nI_eq, bI_0, Decidable.not_not, lc_lt, lc_gt, lc_ge, lc_le, lc_eq, i64_toInt] at c4
    try simp (disch := omega) only [cv_lt, cv_le, cv_eq, nI_toInt, cv_0] at c4
    first
    | omega
    | refine r_iconst hR (nI 0) (by decide) dX8_tear_11 ?_
      refine r_nm (nI (ak A)) (by rcases (show ak A = 0 ∨ ak A = 1 by omega) with q | q <;> rw [q] <;> first | rfl | omega) ?_
      exact J12
  · try simp (disch := omega) only [nI_ltI, nI_leI, nI_eq, bI_0, Decidable.not_not, lc_lt, lc_gt, lc_ge, lc_le, lc_eq, i64_toInt] at c4
    try simp (disch := omega) only [cv_lt, cv_le, cv_eq, nI_toInt, cv_0] at c4
    first
    | omega
    | refine r_iconst hR (nI 1) (by decide) dX8_tear_7 ?_
      refine r_goto hR 12 dX8_tear_8 (by decide) ?_
      refine r_nm (nI (ak A)) (by rcases (show ak A = 0 ∨ ak A = 1 by omega) with q | q <;> rw [q] <;> first | rfl | omega) ?_
      exact J12

set_option maxHeartbeats 4000000 in
set_option maxRecDepth 100000 in
theorem t_X8_sickOnes {G : gG} {M : gM} {S : Nat → Nat} (h : rowP M 0 S) (hwf : wfS S) : Cf G mX8_sickOnes 0 [.ref (ad G 15 0)] M (some (.int (nI (cntB (S 2) 8)))) M := by
  obtain ⟨w0, w1, w2, w3, wr, wt⟩ := id hwf
  refine Ct.of (by decide +kernel) (k := 2) (ls0 := [some (.ref (ad G 15 0)), none, none]) rfl rfl (fun _ _ => trivial) ?_
  intro P hR
  have L : ∀ (j i : Nat), i + j = 8 → P 4 [some (.ref (ad G 15 0)), some (.int (nI (cntB (S 2) i))), some (.int (nI i))] [] M := by
    intro j
    induction j with
    | zero =>
      intro i  hij 
      refine r_iload2 hR dX8_sickOnes_4 ?_
      refine r_bipush hR (nI 8) (by decide) dX8_sickOnes_5 ?_
      refine r_icmp_ge hR 29 dX8_sickOnes_7 (by decide) (fun c7 => ?_) (fun c7 => ?_)
      · try simp (disch := omega) only [nI_ltI, nI_leI, nI_eq, bI_0, Decidable.not_not, lc_lt, lc_gt, lc_ge, lc_le, lc_eq, i64_toInt] at c7
        try simp (disch := omega) only [cv_lt, cv_le, cv_eq, nI_toInt, cv_0] at c7
        first
        | omega
        | refine r_iload1 hR dX8_sickOnes_29 ?_
          refine r_iret hR dX8_sickOnes_30 ?_
          first
          | omega
          | (obtain rfl : i = 8 := by omega
             exact ⟨rfl, rfl⟩)
      · try simp (disch := omega) only [nI_ltI, nI_leI, nI_eq, bI_0, Decidable.not_not, lc_lt, lc_gt, lc_ge, lc_le, lc_eq, i64_toInt] at c7
        try simp (disch := omega) only [cv_lt, cv_le, cv_eq, nI_toInt, cv_0] at c7
        first
        | omega
        | refine r_iload1 hR dX8_sickOnes_10 ?_
          refine r_aload0 hR dX8_sickOnes_11 ?_
          refine r_get hR (by first | decide | assumption | (simp only [gcnt_4, gcnt_1, gcnt_2, gcnt_3, gcnt_12, gcnt_13, gcnt_16]; omega)) fl_X8_9 rfl rfl dX8_sickOnes_12 ?_
          refine r_iconst hR (nI 2) (by decide) dX8_sickOnes_15 ?_
          refine r_iald hR (by first | decide | assumption | (simp only [gcnt_4, gcnt_1, gcnt_2, gcnt_3, gcnt_12, gcnt_13, gcnt_16]; omega)) rfl rfl (by omega) (by decide) dX8_sickOnes_16 ?_
          rw [h 2 (by omega)]
          refine r_iload2 hR dX8_sickOnes_17 ?_
          refine r_ishr hR dX8_sickOnes_18 ?_
          refine r_iconst hR (nI 1) (by decide) dX8_sickOnes_19 ?_
          refine r_iand hR dX8_sickOnes_20 ?_
          refine r_nm _ (sick_t (S 2) w2 i (by omega)).1 ?_
          refine r_iadd hR dX8_sickOnes_21 ?_
          try rw [nI_add]
          refine r_istore1 hR (fun _ h => by first | (cases h; rfl) | exact absurd h (by simp)) dX8_sickOnes_22 ?_
          refine r_iinc2 hR (nI 1) (by decide) (fun _ h => by first | (cases h; rfl) | exact absurd h (by simp)) dX8_sickOnes_23 ?_
          try rw [nI_add]
          refine r_goto hR 4 dX8_sickOnes_26 (by decide) ?_
          omega
    | succ j ih =>
      intro i  hij 
      refine r_iload2 hR dX8_sickOnes_4 ?_
      refine r_bipush hR (nI 8) (by decide) dX8_sickOnes_5 ?_
      refine r_icmp_ge hR 29 dX8_sickOnes_7 (by decide) (fun c7 => ?_) (fun c7 => ?_)
      · try simp (disch := omega) only [nI_ltI, nI_leI, nI_eq, bI_0, Decidable.not_not, lc_lt, lc_gt, lc_ge, lc_le, lc_eq, i64_toInt] at c7
        try simp (disch := omega) only [cv_lt, cv_le, cv_eq, nI_toInt, cv_0] at c7
        first
        | omega
        | refine r_iload1 hR dX8_sickOnes_29 ?_
          refine r_iret hR dX8_sickOnes_30 ?_
          first
          | omega
          | (obtain rfl : i = 8 := by omega
             exact ⟨rfl, rfl⟩)
      · try simp (disch := omega) only [nI_ltI, nI_leI, nI_eq, bI_0, Decidable.not_not, lc_lt, lc_gt, lc_ge, lc_le, lc_eq, i64_toInt] at c7
        try simp (disch := omega) only [cv_lt, cv_le, cv_eq, nI_toInt, cv_0] at c7
        first
        | omega
        | refine r_iload1 hR dX8_sickOnes_10 ?_
          refine r_aload0 hR dX8_sickOnes_11 ?_
          refine r_get hR (by first | decide | assumption | (simp only [gcnt_4, gcnt_1, gcnt_2, gcnt_3, gcnt_12, gcnt_13, gcnt_16]; omega)) fl_X8_9 rfl rfl dX8_sickOnes_12 ?_
          refine r_iconst hR (nI 2) (by decide) dX8_sickOnes_15 ?_
          refine r_iald hR (by first | decide | assumption | (simp only [gcnt_4, gcnt_1, gcnt_2, gcnt_3, gcnt_12, gcnt_13, gcnt_16]; omega)) rfl rfl (by omega) (by decide) dX8_sickOnes_16 ?_
          rw [h 2 (by omega)]
          refine r_iload2 hR dX8_sickOnes_17 ?_
          refine r_ishr hR dX8_sickOnes_18 ?_
          refine r_iconst hR (nI 1) (by decide) dX8_sickOnes_19 ?_
          refine r_iand hR dX8_sickOnes_20 ?_
          refine r_nm _ (sick_t (S 2) w2 i (by omega)).1 ?_
          refine r_iadd hR dX8_sickOnes_21 ?_
          try rw [nI_add]
          refine r_istore1 hR (fun _ h => by first | (cases h; rfl) | exact absurd h (by simp)) dX8_sickOnes_22 ?_
          refine r_iinc2 hR (nI 1) (by decide) (fun _ h => by first | (cases h; rfl) | exact absurd h (by simp)) dX8_sickOnes_23 ?_
          try rw [nI_add]
          refine r_goto hR 4 dX8_sickOnes_26 (by decide) ?_
          exact ih (i + 1) (by omega)
  refine r_iconst hR (nI 0) (by decide) dX8_sickOnes_0 ?_
  refine r_istore1 hR (fun _ h => by first | (cases h; rfl) | exact absurd h (by simp)) dX8_sickOnes_1 ?_
  refine r_iconst hR (nI 0) (by decide) dX8_sickOnes_2 ?_
  refine r_istore2 hR (fun _ h => by first | (cases h; rfl) | exact absurd h (by simp)) dX8_sickOnes_3 ?_
  exact L 8 0 rfl

set_option maxHeartbeats 4000000 in
set_option maxRecDepth 100000 in
theorem t_X8_calms {G : gG} {M : gM} {S : Nat → Nat} (h : rowP M 0 S) (hwf : wfS S) : Cf G mX8_calms 0 [.ref (ad G 15 0)] M (some (.int (nI (calP S 7)))) M := by
  obtain ⟨w0, w1, w2, w3, wr, wt⟩ := id hwf
  refine Ct.of (by decide +kernel) (k := 2) (ls0 := [some (.ref (ad G 15 0)), none, none]) rfl rfl (fun _ _ => trivial) ?_
  intro P hR
  have L : ∀ (j i : Nat), i + j = 7 → P 4 [some (.ref (ad G 15 0)), some (.int (nI (calP S i))), some (.int (nI i))] [] M := by
    intro j
    induction j with
    | zero =>
      intro i  hij 
      refine r_iload2 hR dX8_calms_4 ?_
      refine r_bipush hR (nI 7) (by decide) dX8_calms_5 ?_
      refine r_icmp_ge hR 37 dX8_calms_7 (by decide) (fun c7 => ?_) (fun c7 => ?_)
      · try simp (disch := omega) only [nI_ltI, nI_leI, nI_eq, bI_0, Decidable.not_not, lc_lt, lc_gt, lc_ge, lc_le, lc_eq, i64_toInt] at c7
        try simp (disch := omega) only [cv_lt, cv_le, cv_eq, nI_toInt, cv_0] at c7
        first
        | omega
        | refine r_iload1 hR dX8_calms_37 ?_
          refine r_iret hR dX8_calms_38 ?_
          first
          | omega
          | (obtain rfl : i = 7 := by omega
             exact ⟨rfl, rfl⟩)
      · try simp (disch := omega) only [nI_ltI, nI_leI, nI_eq, bI_0, Decidable.not_not, lc_lt, lc_gt, lc_ge, lc_le, lc_eq, i64_toInt] at c7
        try simp (disch := omega) only [cv_lt, cv_le, cv_eq, nI_toInt, cv_0] at c7
        first
        | omega
        | refine r_iload1 hR dX8_calms_10 ?_
          refine r_aload0 hR dX8_calms_11 ?_
          refine r_get hR (by first | decide | assumption | (simp only [gcnt_4, gcnt_1, gcnt_2, gcnt_3, gcnt_12, gcnt_13, gcnt_16]; omega)) fl_X8_9 rfl rfl dX8_calms_12 ?_
          refine r_iconst hR (nI 4) (by decide) dX8_calms_15 ?_
          refine r_iload2 hR dX8_calms_16 ?_
          refine r_iadd hR dX8_calms_17 ?_
          try rw [nI_add]
          refine r_iald hR (by first | decide | assumption | (simp only [gcnt_4, gcnt_1, gcnt_2, gcnt_3, gcnt_12, gcnt_13, gcnt_16]; omega)) rfl rfl (by omega) (by decide) dX8_calms_18 ?_
          rw [h _ (by omega)]
          have hri := wr i (by omega)
          refine r_bipush hR (nI 8) (by decide) dX8_calms_19 ?_
          refine r_icmp_ne hR 28 dX8_calms_21 (by decide) (fun c21 => ?_) (fun c21 => ?_)
          · try simp (disch := omega) only [nI_ltI, nI_leI, nI_eq, bI_0, Decidable.not_not, lc_lt, lc_gt, lc_ge, lc_le, lc_eq, i64_toInt] at c21
            try simp (disch := omega) only [cv_lt, cv_le, cv_eq, nI_toInt, cv_0] at c21
            first
            | omega
            | refine r_iconst hR (nI 0) (by decide) dX8_calms_28 ?_
              refine r_iadd hR dX8_calms_29 ?_
              try rw [nI_add]
              refine r_istore1 hR (fun _ h => by first | (cases h; rfl) | exact absurd h (by simp)) dX8_calms_30 ?_
              refine r_iinc2 hR (nI 1) (by decide) (fun _ h => by first | (cases h; rfl) | exact absurd h (by simp)) dX8_calms_31 ?_
              try rw [nI_add]
              refine r_goto hR 4 dX8_calms_34 (by decide) ?_
              omega
          · try simp (disch := omega) only [nI_ltI, nI_leI, nI_eq, bI_0, Decidable.not_not, lc_lt, lc_gt, lc_ge, lc_le, lc_eq, i64_toInt] at c21
            try simp (disch := omega) only [cv_lt, cv_le, cv_eq, nI_toInt, cv_0] at c21
            first
            | omega
            | refine r_iconst hR (nI 1) (by decide) dX8_calms_24 ?_
              refine r_goto hR 29 dX8_calms_25 (by decide) ?_
              refine r_iadd hR dX8_calms_29 ?_
              try rw [nI_add]
              refine r_istore1 hR (fun _ h => by first | (cases h; rfl) | exact absurd h (by simp)) dX8_calms_30 ?_
              refine r_iinc2 hR (nI 1) (by decide) (fun _ h => by first | (cases h; rfl) | exact absurd h (by simp)) dX8_calms_31 ?_
              try rw [nI_add]
              refine r_goto hR 4 dX8_calms_34 (by decide) ?_
              omega
    | succ j ih =>
      intro i  hij 
      refine r_iload2 hR dX8_calms_4 ?_
      refine r_bipush hR (nI 7) (by decide) dX8_calms_5 ?_
      refine r_icmp_ge hR 37 dX8_calms_7 (by decide) (fun c7 => ?_) (fun c7 => ?_)
      · try simp (disch := omega) only [nI_ltI, nI_leI, nI_eq, bI_0, Decidable.not_not, lc_lt, lc_gt, lc_ge, lc_le, lc_eq, i64_toInt] at c7
        try simp (disch := omega) only [cv_lt, cv_le, cv_eq, nI_toInt, cv_0] at c7
        first
        | omega
        | refine r_iload1 hR dX8_calms_37 ?_
          refine r_iret hR dX8_calms_38 ?_
          first
          | omega
          | (obtain rfl : i = 7 := by omega
             exact ⟨rfl, rfl⟩)
      · try simp (disch := omega) only [nI_ltI, nI_leI, nI_eq, bI_0, Decidable.not_not, lc_lt, lc_gt, lc_ge, lc_le, lc_eq, i64_toInt] at c7
        try simp (disch := omega) only [cv_lt, cv_le, cv_eq, nI_toInt, cv_0] at c7
        first
        | omega
        | refine r_iload1 hR dX8_calms_10 ?_
          refine r_aload0 hR dX8_calms_11 ?_
          refine r_get hR (by first | decide | assumption | (simp only [gcnt_4, gcnt_1, gcnt_2, gcnt_3, gcnt_12, gcnt_13, gcnt_16]; omega)) fl_X8_9 rfl rfl dX8_calms_12 ?_
          refine r_iconst hR (nI 4) (by decide) dX8_calms_15 ?_
          refine r_iload2 hR dX8_calms_16 ?_
          refine r_iadd hR dX8_calms_17 ?_
          try rw [nI_add]
          refine r_iald hR (by first | decide | assumption | (simp only [gcnt_4, gcnt_1, gcnt_2, gcnt_3, gcnt_12, gcnt_13, gcnt_16]; omega)) rfl rfl (by omega) (by decide) dX8_calms_18 ?_
          rw [h _ (by omega)]
          have hri := wr i (by omega)
          refine r_bipush hR (nI 8) (by decide) dX8_calms_19 ?_
          refine r_icmp_ne hR 28 dX8_calms_21 (by decide) (fun c21 => ?_) (fun c21 => ?_)
          · try simp (disch := omega) only [nI_ltI, nI_leI, nI_eq, bI_0, Decidable.not_not, lc_lt, lc_gt, lc_ge, lc_le, lc_eq, i64_toInt] at c21
            try simp (disch := omega) only [cv_lt, cv_le, cv_eq, nI_toInt, cv_0] at c21
            first
            | omega
            | refine r_iconst hR (nI 0) (by decide) dX8_calms_28 ?_
              refine r_iadd hR dX8_calms_29 ?_
              try rw [nI_add]
              refine r_istore1 hR (fun _ h => by first | (cases h; rfl) | exact absurd h (by simp)) dX8_calms_30 ?_
              refine r_iinc2 hR (nI 1) (by decide) (fun _ h => by first | (cases h; rfl) | exact absurd h (by simp)) dX8_calms_31 ?_
              try rw [nI_add]
              refine r_goto hR 4 dX8_calms_34 (by decide) ?_
              have e : calP S (i + 1) = calP S i + (if S (4 + i) = 8 then 1 else 0) := rfl
              first
              | (rw [if_pos c21] at e; rw [← e]; exact ih (i + 1) (by omega))
              | (rw [if_neg c21] at e; rw [← e]; exact ih (i + 1) (by omega))
          · try simp (disch := omega) only [nI_ltI, nI_leI, nI_eq, bI_0, Decidable.not_not, lc_lt, lc_gt, lc_ge, lc_le, lc_eq, i64_toInt] at c21
            try simp (disch := omega) only [cv_lt, cv_le, cv_eq, nI_toInt, cv_0] at c21
            first
            | omega
            | refine r_iconst hR (nI 1) (by decide) dX8_calms_24 ?_
              refine r_goto hR 29 dX8_calms_25 (by decide) ?_
              refine r_iadd hR dX8_calms_29 ?_
              try rw [nI_add]
              refine r_istore1 hR (fun _ h => by first | (cases h; rfl) | exact absurd h (by simp)) dX8_calms_30 ?_
              refine r_iinc2 hR (nI 1) (by decide) (fun _ h => by first | (cases h; rfl) | exact absurd h (by simp)) dX8_calms_31 ?_
              try rw [nI_add]
              refine r_goto hR 4 dX8_calms_34 (by decide) ?_
              have e : calP S (i + 1) = calP S i + (if S (4 + i) = 8 then 1 else 0) := rfl
              first
              | (rw [if_pos c21] at e; rw [← e]; exact ih (i + 1) (by omega))
              | (rw [if_neg c21] at e; rw [← e]; exact ih (i + 1) (by omega))
  refine r_iconst hR (nI 0) (by decide) dX8_calms_0 ?_
  refine r_istore1 hR (fun _ h => by first | (cases h; rfl) | exact absurd h (by simp)) dX8_calms_1 ?_
  refine r_iconst hR (nI 0) (by decide) dX8_calms_2 ?_
  refine r_istore2 hR (fun _ h => by first | (cases h; rfl) | exact absurd h (by simp)) dX8_calms_3 ?_
  exact L 7 0 rfl

set_option maxHeartbeats 4000000 in
set_option maxRecDepth 100000 in
theorem t_X8_count {G : gG} {M : gM} {A : gA} {x : Int32} (hc : mdlP M A) (hw : wfA A) : Ct G mX8_count 1 [.ref (ad G 15 0), .int x] M (Qm M (oCount A x)) := by
  obtain ⟨hwf, hday, hwk, hk2, hl, hT, hsh⟩ := id hw
  obtain ⟨w0, w1, w2, w3, wr, wt⟩ := id hwf
  obtain ⟨h, hKp, hkk, hlp, htp, hshp, hfp⟩ := id hc
  refine Ct.of (by decide +kernel) (k := 0) (ls0 := [some (.ref (ad G 15 0)), some (.int x)]) rfl rfl (fun _ _ => trivial) ?_
  intro P hR
  by_cases hv : 0 ≤ x.toInt ∧ x.toInt ≤ 3
  · skip
    obtain ⟨n, hn, rfl⟩ := of_in (x := x) (N := 3) (by omega)
    have e : oCount A (nI n) = (nI (if n = 0 then aS A 3 else if n = 1 then al A else if n = 2 then cntB (aS A 2) 8 else calP (aS A) 7), A) := by
      unfold oCount
      rw [if_pos (by simp (disch := omega) only [okI, nI_toInt]; omega)]
      simp (disch := omega) only [uN_nI]
    refine r_iload1 hR dX8_count_0 ?_
    by_cases e0 : n = 0
    · refine r_swInN hR 0 e0 (by decide) 32 dX8_count_1 (by decide) (by decide) rfl (by decide) ?_
      refine r_aload0 hR dX8_count_32 ?_
      refine r_get hR (by first | decide | assumption | (simp only [gcnt_4, gcnt_1, gcnt_2, gcnt_3, gcnt_12, gcnt_13, gcnt_16]; omega)) fl_X8_9 rfl rfl dX8_count_33 ?_
      refine r_iconst hR (nI 3) (by decide) dX8_count_36 ?_
      refine r_iald hR (by first | decide | assumption | (simp only [gcnt_4, gcnt_1, gcnt_2, gcnt_3, gcnt_12, gcnt_13, gcnt_16]; omega)) rfl rfl (by omega) (by decide) dX8_count_37 ?_
      rw [h 3 (by omega)]
      refine r_iret hR dX8_count_38 ?_
      unfold Qm
      rw [e]
      refine ⟨congrArg (fun z => some (Value.int (nI z))) ?_, hc, keepC.rf M⟩
      (repeat' split) <;> first | rfl | omega
    · skip
      by_cases e1 : n = 1
      · refine r_swInN hR 1 e1 (by decide) 39 dX8_count_1 (by decide) (by decide) rfl (by decide) ?_
        refine r_aload0 hR dX8_count_39 ?_
        refine r_get hR (by first | decide | assumption | (simp only [gcnt_4, gcnt_1, gcnt_2, gcnt_3, gcnt_12, gcnt_13, gcnt_16]; omega)) fl_X8_145 rfl rfl dX8_count_40 ?_
        rw [hlp]
        refine r_iret hR dX8_count_43 ?_
        unfold Qm
        rw [e]
        refine ⟨congrArg (fun z => some (Value.int (nI z))) ?_, hc, keepC.rf M⟩
        (repeat' split) <;> first | rfl | omega
      · skip
        by_cases e2 : n = 2
        · refine r_swInN hR 2 e2 (by decide) 44 dX8_count_1 (by decide) (by decide) rfl (by decide) ?_
          refine r_aload0 hR dX8_count_44 ?_
          refine r_cv0v hR kv_X8_225 (by decide) (t_X8_sickOnes h hwf) (by first | decide | assumption | (simp only [gcnt_4, gcnt_1, gcnt_2, gcnt_3, gcnt_12, gcnt_13, gcnt_16]; omega)) rfl rfl (Nat.le_of_ble_eq_true rfl) dX8_count_45 ?_
          refine r_iret hR dX8_count_48 ?_
          unfold Qm
          rw [e]
          refine ⟨congrArg (fun z => some (Value.int (nI z))) ?_, hc, keepC.rf M⟩
          (repeat' split) <;> first | rfl | omega
        · skip
          by_cases e3 : n = 3
          · refine r_swInN hR 3 e3 (by decide) 49 dX8_count_1 (by decide) (by decide) rfl (by decide) ?_
            refine r_aload0 hR dX8_count_49 ?_
            refine r_cv0v hR kv_X8_228 (by decide) (t_X8_calms h hwf) (by first | decide | assumption | (simp only [gcnt_4, gcnt_1, gcnt_2, gcnt_3, gcnt_12, gcnt_13, gcnt_16]; omega)) rfl rfl (Nat.le_of_ble_eq_true rfl) dX8_count_50 ?_
            refine r_iret hR dX8_count_53 ?_
            unfold Qm
            rw [e]
            refine ⟨congrArg (fun z => some (Value.int (nI z))) ?_, hc, keepC.rf M⟩
            (repeat' split) <;> first | rfl | omega
          · skip
            refine r_swOutN hR (k := n) (by omega) 54 dX8_count_1 (by omega) (by decide) ?_
            refine r_aload0 hR dX8_count_54 ?_
            refine r_ldc hR ct_X8_41 dX8_count_55 ?_
            refine r_cv1v hR kv_X8_43 (by decide) (t_X8_findsC (n := 0) (by decide) (by decide)) (by first | decide | assumption | (simp only [gcnt_4, gcnt_1, gcnt_2, gcnt_3, gcnt_12, gcnt_13, gcnt_16]; omega)) rfl rfl (Nat.le_of_ble_eq_true rfl) dX8_count_57 ?_
            refine r_iret hR dX8_count_60 ?_
            omega
  · skip
    refine r_iload1 hR dX8_count_0 ?_
    refine r_swOut hR 54 dX8_count_1 (by omega) (by decide) ?_
    refine r_aload0 hR dX8_count_54 ?_
    refine r_ldc hR ct_X8_41 dX8_count_55 ?_
    refine r_cv1v hR kv_X8_43 (by decide) (t_X8_findsC (n := 0) (by decide) (by decide)) (by first | decide | assumption | (simp only [gcnt_4, gcnt_1, gcnt_2, gcnt_3, gcnt_12, gcnt_13, gcnt_16]; omega)) rfl rfl (Nat.le_of_ble_eq_true rfl) dX8_count_57 ?_
    refine r_iret hR dX8_count_60 ?_
    refine Qm_fnd hc (by decide) ?_
    unfold oCount
    dsimp only [okI, okT]
    (repeat' split) <;> first | rfl | omega

def stN (f : Nat → Int32) (x : Int) : Nat → Int32
  | 0 => nI 0
  | k + 1 => stN f x k + (if x < 0 ∨ x = k then f k else nI 0)
theorem stN_neg (f : Nat → Int32) {x : Int} (h : x < 0) (n : Nat) : stN f x n = fsum f n := by
  induction n with
  | zero => rfl
  | succ n ih => show stN f x n + _ = fsum f n + f n; rw [ih, if_pos (Or.inl h)]
theorem i32_z (x : Int32) : x + nI 0 = x := by
  show x + 0 = x
  exact Int32.add_zero x
theorem z_i32 (x : Int32) : nI 0 + x = x := by
  show 0 + x = x
  exact Int32.zero_add x
theorem stN_at (f : Nat → Int32) {m : Nat} (n : Nat) : stN f m n = if m < n then f m else nI 0 := by
  induction n with
  | zero => rfl
  | succ n ih =>
    show stN f m n + _ = _
    rw [ih]
    by_cases q : m = n
    · subst q
      rw [if_neg (by omega), if_pos (Or.inr rfl), if_pos (by omega), z_i32]
    · rw [if_neg (show ¬ ((m : Int) < 0 ∨ (m : Int) = n) by omega), i32_z]
      by_cases y : m < n
      · rw [if_pos y, if_pos (by omega)]
      · rw [if_neg y, if_neg (by omega)]
set_option maxHeartbeats 4000000 in
set_option maxRecDepth 100000 in
theorem t_X8_status {G : gG} {M : gM} {A : gA} {x : Int32} (hc : mdlP M A) (hw : wfA A) : Ct G mX8_status 1 [.ref (ad G 15 0), .int x] M (Qm M (oStatus A x)) := by
  obtain ⟨hwf, hday, hwk, hk2, hl, hT, hsh⟩ := id hw
  obtain ⟨w0, w1, w2, w3, wr, wt⟩ := id hwf
  obtain ⟨h, hKp, hkk, hlp, htp, hshp, hfp⟩ := id hc
  refine Ct.of (by decide +kernel) (k := 2) (ls0 := [some (.ref (ad G 15 0)), some (.int x), none, none]) rfl rfl (fun _ _ => trivial) ?_
  intro P hR
  refine r_iload1 hR dX8_status_0 ?_
  refine r_i2l hR dX8_status_1 ?_
  refine r_iconst hR (-1) (by decide) dX8_status_2 ?_
  refine r_bipush hR (nI 6) (by decide) dX8_status_3 ?_
  refine r_cs3v hR ks_X8_47 (by decide) (t_X8_in) (Nat.le_of_ble_eq_true rfl) dX8_status_5 ?_
  refine r_if_ne hR 18 dX8_status_8 (by decide) (fun c8 => ?_) (fun c8 => ?_)
  · try simp (disch := omega) only [nI_ltI, nI_leI, nI_eq, bI_0, Decidable.not_not, lc_lt, lc_gt, lc_ge, lc_le, lc_eq, i64_toInt] at c8
    try simp (disch := omega) only [cv_lt, cv_le, cv_eq, nI_toInt, cv_0] at c8
    first
    | omega
    | rw [show (-1 : Int32).toInt = -1 from by decide] at c8
      have L : ∀ (j i : Nat), i + j = 7 → P 22 [some (.ref (ad G 15 0)), some (.int x), some (.int (stN (aF A) x.toInt i)), some (.int (nI i))] [] M := by
        intro j
        induction j with
        | zero =>
          intro i  hij 
          refine r_iload3 hR dX8_status_22 ?_
          refine r_bipush hR (nI 7) (by decide) dX8_status_23 ?_
          refine r_icmp_ge hR 56 dX8_status_25 (by decide) (fun c25 => ?_) (fun c25 => ?_)
          · try simp (disch := omega) only [nI_ltI, nI_leI, nI_eq, bI_0, Decidable.not_not, lc_lt, lc_gt, lc_ge, lc_le, lc_eq, i64_toInt] at c25
            try simp (disch := omega) only [cv_lt, cv_le, cv_eq, nI_toInt, cv_0] at c25
            first
            | omega
            | refine r_iload2 hR dX8_status_56 ?_
              refine r_iret hR dX8_status_57 ?_
              first
              | omega
              | (obtain rfl : i = 7 := by omega
                 unfold oStatus
                 rw [if_pos (by dsimp only [okI]; omega)]
                 by_cases q : x.toInt < 0
                 · rw [if_pos q, stN_neg _ q]
                   exact ⟨rfl, hc, keepC.rf M⟩
                 · rw [if_neg q]
                   obtain ⟨n, hn, rfl⟩ := of_in (x := x) (N := 6) (by omega)
                   rw [nI_toInt (by omega), stN_at, if_pos (by omega), uN_nI (by omega)]
                   exact ⟨rfl, hc, keepC.rf M⟩)
          · try simp (disch := omega) only [nI_ltI, nI_leI, nI_eq, bI_0, Decidable.not_not, lc_lt, lc_gt, lc_ge, lc_le, lc_eq, i64_toInt] at c25
            try simp (disch := omega) only [cv_lt, cv_le, cv_eq, nI_toInt, cv_0] at c25
            first
            | omega
            | refine r_iload2 hR dX8_status_28 ?_
              refine r_iload1 hR dX8_status_29 ?_
              refine r_if_lt hR 38 dX8_status_30 (by decide) (fun c30 => ?_) (fun c30 => ?_)
              · try simp (disch := omega) only [nI_ltI, nI_leI, nI_eq, bI_0, Decidable.not_not, lc_lt, lc_gt, lc_ge, lc_le, lc_eq, i64_toInt] at c30
                try simp (disch := omega) only [cv_lt, cv_le, cv_eq, nI_toInt, cv_0] at c30
                first
                | omega
                | refine r_aload0 hR dX8_status_38 ?_
                  refine r_get hR (by first | decide | assumption | (simp only [gcnt_4, gcnt_1, gcnt_2, gcnt_3, gcnt_12, gcnt_13, gcnt_16]; omega)) fl_X8_19 rfl rfl dX8_status_39 ?_
                  refine r_iload3 hR dX8_status_42 ?_
                  refine r_iald hR (by first | decide | assumption | (simp only [gcnt_4, gcnt_1, gcnt_2, gcnt_3, gcnt_12, gcnt_13, gcnt_16]; omega)) rfl rfl (by omega) (by decide) dX8_status_43 ?_
                  rw [hfp i (by omega)]
                  refine r_goto hR 48 dX8_status_44 (by decide) ?_
                  refine r_iadd hR dX8_status_48 ?_
                  refine r_istore2 hR (fun _ h => by first | (cases h; rfl) | exact absurd h (by simp)) dX8_status_49 ?_
                  refine r_iinc3 hR (nI 1) (by decide) (fun _ h => by first | (cases h; rfl) | exact absurd h (by simp)) dX8_status_50 ?_
                  try rw [nI_add]
                  refine r_goto hR 22 dX8_status_53 (by decide) ?_
                  omega
              · try simp (disch := omega) only [nI_ltI, nI_leI, nI_eq, bI_0, Decidable.not_not, lc_lt, lc_gt, lc_ge, lc_le, lc_eq, i64_toInt] at c30
                try simp (disch := omega) only [cv_lt, cv_le, cv_eq, nI_toInt, cv_0] at c30
                first
                | omega
                | refine r_iload1 hR dX8_status_33 ?_
                  refine r_iload3 hR dX8_status_34 ?_
                  refine r_icmp_ne hR 47 dX8_status_35 (by decide) (fun c35 => ?_) (fun c35 => ?_)
                  · try simp (disch := omega) only [nI_ltI, nI_leI, nI_eq, bI_0, Decidable.not_not, lc_lt, lc_gt, lc_ge, lc_le, lc_eq, i64_toInt] at c35
                    try simp (disch := omega) only [cv_lt, cv_le, cv_eq, nI_toInt, cv_0] at c35
                    first
                    | omega
                    | refine r_iconst hR (nI 0) (by decide) dX8_status_47 ?_
                      refine r_iadd hR dX8_status_48 ?_
                      refine r_istore2 hR (fun _ h => by first | (cases h; rfl) | exact absurd h (by simp)) dX8_status_49 ?_
                      refine r_iinc3 hR (nI 1) (by decide) (fun _ h => by first | (cases h; rfl) | exact absurd h (by simp)) dX8_status_50 ?_
                      try rw [nI_add]
                      refine r_goto hR 22 dX8_status_53 (by decide) ?_
                      omega
                  · try simp (disch := omega) only [nI_ltI, nI_leI, nI_eq, bI_0, Decidable.not_not, lc_lt, lc_gt, lc_ge, lc_le, lc_eq, i64_toInt] at c35
                    try simp (disch := omega) only [cv_lt, cv_le, cv_eq, nI_toInt, cv_0] at c35
                    first
                    | omega
                    | refine r_aload0 hR dX8_status_38 ?_
                      refine r_get hR (by first | decide | assumption | (simp only [gcnt_4, gcnt_1, gcnt_2, gcnt_3, gcnt_12, gcnt_13, gcnt_16]; omega)) fl_X8_19 rfl rfl dX8_status_39 ?_
                      refine r_iload3 hR dX8_status_42 ?_
                      refine r_iald hR (by first | decide | assumption | (simp only [gcnt_4, gcnt_1, gcnt_2, gcnt_3, gcnt_12, gcnt_13, gcnt_16]; omega)) rfl rfl (by omega) (by decide) dX8_status_43 ?_
                      rw [hfp i (by omega)]
                      refine r_goto hR 48 dX8_status_44 (by decide) ?_
                      refine r_iadd hR dX8_status_48 ?_
                      refine r_istore2 hR (fun _ h => by first | (cases h; rfl) | exact absurd h (by simp)) dX8_status_49 ?_
                      refine r_iinc3 hR (nI 1) (by decide) (fun _ h => by first | (cases h; rfl) | exact absurd h (by simp)) dX8_status_50 ?_
                      try rw [nI_add]
                      refine r_goto hR 22 dX8_status_53 (by decide) ?_
                      omega
        | succ j ih =>
          intro i  hij 
          refine r_iload3 hR dX8_status_22 ?_
          refine r_bipush hR (nI 7) (by decide) dX8_status_23 ?_
          refine r_icmp_ge hR 56 dX8_status_25 (by decide) (fun c25 => ?_) (fun c25 => ?_)
          · try simp (disch := omega) only [nI_ltI, nI_leI, nI_eq, bI_0, Decidable.not_not, lc_lt, lc_gt, lc_ge, lc_le, lc_eq, i64_toInt] at c25
            try simp (disch := omega) only [cv_lt, cv_le, cv_eq, nI_toInt, cv_0] at c25
            first
            | omega
            | refine r_iload2 hR dX8_status_56 ?_
              refine r_iret hR dX8_status_57 ?_
              first
              | omega
              | (obtain rfl : i = 7 := by omega
                 unfold oStatus
                 rw [if_pos (by dsimp only [okI]; omega)]
                 by_cases q : x.toInt < 0
                 · rw [if_pos q, stN_neg _ q]
                   exact ⟨rfl, hc, keepC.rf M⟩
                 · rw [if_neg q]
                   obtain ⟨n, hn, rfl⟩ := of_in (x := x) (N := 6) (by omega)
                   rw [nI_toInt (by omega), stN_at, if_pos (by omega), uN_nI (by omega)]
                   exact ⟨rfl, hc, keepC.rf M⟩)
          · try simp (disch := omega) only [nI_ltI, nI_leI, nI_eq, bI_0, Decidable.not_not, lc_lt, lc_gt, lc_ge, lc_le, lc_eq, i64_toInt] at c25
            try simp (disch := omega) only [cv_lt, cv_le, cv_eq, nI_toInt, cv_0] at c25
            first
            | omega
            | refine r_iload2 hR dX8_status_28 ?_
              refine r_iload1 hR dX8_status_29 ?_
              refine r_if_lt hR 38 dX8_status_30 (by decide) (fun c30 => ?_) (fun c30 => ?_)
              · try simp (disch := omega) only [nI_ltI, nI_leI, nI_eq, bI_0, Decidable.not_not, lc_lt, lc_gt, lc_ge, lc_le, lc_eq, i64_toInt] at c30
                try simp (disch := omega) only [cv_lt, cv_le, cv_eq, nI_toInt, cv_0] at c30
                first
                | omega
                | refine r_aload0 hR dX8_status_38 ?_
                  refine r_get hR (by first | decide | assumption | (simp only [gcnt_4, gcnt_1, gcnt_2, gcnt_3, gcnt_12, gcnt_13, gcnt_16]; omega)) fl_X8_19 rfl rfl dX8_status_39 ?_
                  refine r_iload3 hR dX8_status_42 ?_
                  refine r_iald hR (by first | decide | assumption | (simp only [gcnt_4, gcnt_1, gcnt_2, gcnt_3, gcnt_12, gcnt_13, gcnt_16]; omega)) rfl rfl (by omega) (by decide) dX8_status_43 ?_
                  rw [hfp i (by omega)]
                  refine r_goto hR 48 dX8_status_44 (by decide) ?_
                  refine r_iadd hR dX8_status_48 ?_
                  refine r_istore2 hR (fun _ h => by first | (cases h; rfl) | exact absurd h (by simp)) dX8_status_49 ?_
                  refine r_iinc3 hR (nI 1) (by decide) (fun _ h => by first | (cases h; rfl) | exact absurd h (by simp)) dX8_status_50 ?_
                  try rw [nI_add]
                  refine r_goto hR 22 dX8_status_53 (by decide) ?_
                  have es : stN (aF A) x.toInt (i + 1) = stN (aF A) x.toInt i + (if x.toInt < 0 ∨ x.toInt = i then aF A i else nI 0) := rfl
                  first
                  | (rw [if_pos (by omega)] at es; rw [← es]; exact ih (i + 1) (by omega))
                  | (rw [if_neg (by omega)] at es; rw [← es]; exact ih (i + 1) (by omega))
              · try simp (disch := omega) only [nI_ltI, nI_leI, nI_eq, bI_0, Decidable.not_not, lc_lt, lc_gt, lc_ge, lc_le, lc_eq, i64_toInt] at c30
                try simp (disch := omega) only [cv_lt, cv_le, cv_eq, nI_toInt, cv_0] at c30
                first
                | omega
                | refine r_iload1 hR dX8_status_33 ?_
                  refine r_iload3 hR dX8_status_34 ?_
                  refine r_icmp_ne hR 47 dX8_status_35 (by decide) (fun c35 => ?_) (fun c35 => ?_)
                  · try simp (disch := omega) only [nI_ltI, nI_leI, nI_eq, bI_0, Decidable.not_not, lc_lt, lc_gt, lc_ge, lc_le, lc_eq, i64_toInt] at c35
                    try simp (disch := omega) only [cv_lt, cv_le, cv_eq, nI_toInt, cv_0] at c35
                    first
                    | omega
                    | refine r_iconst hR (nI 0) (by decide) dX8_status_47 ?_
                      refine r_iadd hR dX8_status_48 ?_
                      refine r_istore2 hR (fun _ h => by first | (cases h; rfl) | exact absurd h (by simp)) dX8_status_49 ?_
                      refine r_iinc3 hR (nI 1) (by decide) (fun _ h => by first | (cases h; rfl) | exact absurd h (by simp)) dX8_status_50 ?_
                      try rw [nI_add]
                      refine r_goto hR 22 dX8_status_53 (by decide) ?_
                      have es : stN (aF A) x.toInt (i + 1) = stN (aF A) x.toInt i + (if x.toInt < 0 ∨ x.toInt = i then aF A i else nI 0) := rfl
                      first
                      | (rw [if_pos (by omega)] at es; rw [← es]; exact ih (i + 1) (by omega))
                      | (rw [if_neg (by omega)] at es; rw [← es]; exact ih (i + 1) (by omega))
                  · try simp (disch := omega) only [nI_ltI, nI_leI, nI_eq, bI_0, Decidable.not_not, lc_lt, lc_gt, lc_ge, lc_le, lc_eq, i64_toInt] at c35
                    try simp (disch := omega) only [cv_lt, cv_le, cv_eq, nI_toInt, cv_0] at c35
                    first
                    | omega
                    | refine r_aload0 hR dX8_status_38 ?_
                      refine r_get hR (by first | decide | assumption | (simp only [gcnt_4, gcnt_1, gcnt_2, gcnt_3, gcnt_12, gcnt_13, gcnt_16]; omega)) fl_X8_19 rfl rfl dX8_status_39 ?_
                      refine r_iload3 hR dX8_status_42 ?_
                      refine r_iald hR (by first | decide | assumption | (simp only [gcnt_4, gcnt_1, gcnt_2, gcnt_3, gcnt_12, gcnt_13, gcnt_16]; omega)) rfl rfl (by omega) (by decide) dX8_status_43 ?_
                      rw [hfp i (by omega)]
                      refine r_goto hR 48 dX8_status_44 (by decide) ?_
                      refine r_iadd hR dX8_status_48 ?_
                      refine r_istore2 hR (fun _ h => by first | (cases h; rfl) | exact absurd h (by simp)) dX8_status_49 ?_
                      refine r_iinc3 hR (nI 1) (by decide) (fun _ h => by first | (cases h; rfl) | exact absurd h (by simp)) dX8_status_50 ?_
                      try rw [nI_add]
                      refine r_goto hR 22 dX8_status_53 (by decide) ?_
                      have es : stN (aF A) x.toInt (i + 1) = stN (aF A) x.toInt i + (if x.toInt < 0 ∨ x.toInt = i then aF A i else nI 0) := rfl
                      first
                      | (rw [if_pos (by omega)] at es; rw [← es]; exact ih (i + 1) (by omega))
                      | (rw [if_neg (by omega)] at es; rw [← es]; exact ih (i + 1) (by omega))
      refine r_iconst hR (nI 0) (by decide) dX8_status_18 ?_
      refine r_istore2 hR (fun _ h => by first | (cases h; rfl) | exact absurd h (by simp)) dX8_status_19 ?_
      refine r_iconst hR (nI 0) (by decide) dX8_status_20 ?_
      refine r_istore3 hR (fun _ h => by first | (cases h; rfl) | exact absurd h (by simp)) dX8_status_21 ?_
      exact L 7 0 rfl
  · try simp (disch := omega) only [nI_ltI, nI_leI, nI_eq, bI_0, Decidable.not_not, lc_lt, lc_gt, lc_ge, lc_le, lc_eq, i64_toInt] at c8
    try simp (disch := omega) only [cv_lt, cv_le, cv_eq, nI_toInt, cv_0] at c8
    first
    | omega
    | refine r_aload0 hR dX8_status_11 ?_
      refine r_ldc hR ct_X8_41 dX8_status_12 ?_
      refine r_cv1v hR kv_X8_43 (by decide) (t_X8_findsC (n := 0) (by decide) (by decide)) (by first | decide | assumption | (simp only [gcnt_4, gcnt_1, gcnt_2, gcnt_3, gcnt_12, gcnt_13, gcnt_16]; omega)) rfl rfl (Nat.le_of_ble_eq_true rfl) dX8_status_14 ?_
      refine r_iret hR dX8_status_17 ?_
      refine Qm_fnd hc (by decide) ?_
      unfold oStatus
      refine if_neg ?_
      dsimp only [okI]
      rw [show (-1 : Int32).toInt = -1 from by decide] at c8
      omega

set_option maxHeartbeats 4000000 in
set_option maxRecDepth 100000 in
theorem t_X8_feed {G : gG} {M : gM} {A : gA} {x y : Int32} (hc : mdlP M A) (hw : wfA A) : Ct G mX8_feed 1 [.ref (ad G 15 0), .int x, .int y] M (Qm M (oFeed A x y)) := by
  obtain ⟨hwf, hday, hwk, hk2, hl, hT, hsh⟩ := id hw
  obtain ⟨w0, w1, w2, w3, wr, wt⟩ := id hwf
  obtain ⟨h, hKp, hkk, hlp, htp, hshp, hfp⟩ := id hc
  refine Ct.of (by decide +kernel) (k := 1) (ls0 := [some (.ref (ad G 15 0)), some (.int x), some (.int y), none]) rfl rfl (fun _ _ => trivial) ?_
  intro P hR
  refine r_iload2 hR dX8_feed_0 ?_
  refine r_i2l hR dX8_feed_1 ?_
  refine r_iconst hR (nI 1) (by decide) dX8_feed_2 ?_
  refine r_iconst hR (nI 4) (by decide) dX8_feed_3 ?_
  refine r_cs3v hR ks_X8_47 (by decide) (t_X8_in) (Nat.le_of_ble_eq_true rfl) dX8_feed_4 ?_
  refine r_if_ne hR 17 dX8_feed_7 (by decide) (fun c7 => ?_) (fun c7 => ?_)
  · try simp (disch := omega) only [nI_ltI, nI_leI, nI_eq, bI_0, Decidable.not_not, lc_lt, lc_gt, lc_ge, lc_le, lc_eq, i64_toInt] at c7
    try simp (disch := omega) only [cv_lt, cv_le, cv_eq, nI_toInt, cv_0] at c7
    first
    | omega
    | obtain ⟨n, hn, rfl⟩ := of_in (x := y) (N := 4) (by omega)
      simp (disch := omega) only [nI_toInt] at c7
      have e : oFeed A x (nI n) = if 120 < al A + n then fnd A 1 else (nI (al A + n), sT A (fun j => if al A ≤ j ∧ j < al A + n then x.toBitVec.toNat / 2 ^ (8 * (n - 1 - (j - al A))) % 256 else aT A j) (al A + n)) := by
        unfold oFeed
        rw [if_pos (by simp (disch := omega) only [okI, nI_toInt]; omega)]
        simp (disch := omega) only [uN_nI]
      refine r_aload0 hR dX8_feed_17 ?_
      refine r_get hR (by first | decide | assumption | (simp only [gcnt_4, gcnt_1, gcnt_2, gcnt_3, gcnt_12, gcnt_13, gcnt_16]; omega)) fl_X8_145 rfl rfl dX8_feed_18 ?_
      rw [hlp]
      refine r_iload2 hR dX8_feed_21 ?_
      refine r_iadd hR dX8_feed_22 ?_
      try rw [nI_add]
      refine r_bipush hR (nI 120) (by decide) dX8_feed_23 ?_
      refine r_icmp_le hR 35 dX8_feed_25 (by decide) (fun c25 => ?_) (fun c25 => ?_)
      · try simp (disch := omega) only [nI_ltI, nI_leI, nI_eq, bI_0, Decidable.not_not, lc_lt, lc_gt, lc_ge, lc_le, lc_eq, i64_toInt] at c25
        try simp (disch := omega) only [cv_lt, cv_le, cv_eq, nI_toInt, cv_0] at c25
        first
        | omega
        | have L : ∀ (j i : Nat) (x3 : Int32) (N : gM), i + j = n → x3 = nI (n - i) + (-1) → (∀ r i k, ¬ r = 19 → ¬ (r = 15 ∧ k = 8) → N.1 r i k = M.1 r i k) → N.2 = M.2 → N.1 15 0 8 = nI (al A + i) → (∀ j, j < al A + i → N.1 19 0 j = nI ((fun j => if al A ≤ j ∧ j < al A + n then x.toBitVec.toNat / 2 ^ (8 * (n - 1 - (j - al A))) % 256 else aT A j) j)) → P 39 [some (.ref (ad G 15 0)), some (.int x), some (.int (nI n)), some (.int x3)] [] N := by
            intro j
            induction j with
            | zero =>
              intro i x3 N hij hx3 hNr hN2 hN1 hNT
              have hin : i = n := by omega
              subst hin
              rw [Nat.sub_self, show nI 0 + (-1 : Int32) = -1 from by decide] at hx3
              subst hx3
              have hm1 : (-1 : Int32).toInt = -1 := by decide
              refine r_iload3 hR dX8_feed_39 ?_
              refine r_if_lt hR 78 dX8_feed_40 (by decide) (fun c40 => ?_) (fun c40 => ?_)
              · try simp (disch := omega) only [nI_ltI, nI_leI, nI_eq, bI_0, Decidable.not_not, lc_lt, lc_gt, lc_ge, lc_le, lc_eq, i64_toInt] at c40
                try simp (disch := omega) only [cv_lt, cv_le, cv_eq, nI_toInt, cv_0] at c40
                first
                | omega
                | refine r_aload0 hR dX8_feed_78 ?_
                  refine r_get hR (by first | decide | assumption | (simp only [gcnt_4, gcnt_1, gcnt_2, gcnt_3, gcnt_12, gcnt_13, gcnt_16]; omega)) fl_X8_145 rfl rfl dX8_feed_79 ?_
                  rw [hN1]
                  refine r_iret hR dX8_feed_82 ?_
                  first
                  | omega
                  | (rw [e, if_neg (by omega)]
                     exact ⟨rfl, mdlP_tape hc hNr hN2 hN1 hNT, fun r hr => ⟨by funext a b; exact hNr r a b (by omega) (by omega), by rw [hN2]⟩⟩)
              · try simp (disch := omega) only [nI_ltI, nI_leI, nI_eq, bI_0, Decidable.not_not, lc_lt, lc_gt, lc_ge, lc_le, lc_eq, i64_toInt] at c40
                try simp (disch := omega) only [cv_lt, cv_le, cv_eq, nI_toInt, cv_0] at c40
                first
                | omega
                | refine r_aload0 hR dX8_feed_43 ?_
                  refine r_get hR (by first | decide | assumption | (simp only [gcnt_4, gcnt_1, gcnt_2, gcnt_3, gcnt_12, gcnt_13, gcnt_16]; omega)) fl_X8_28 rfl rfl dX8_feed_44 ?_
                  refine r_aload0 hR dX8_feed_47 ?_
                  refine r_get hR (by first | decide | assumption | (simp only [gcnt_4, gcnt_1, gcnt_2, gcnt_3, gcnt_12, gcnt_13, gcnt_16]; omega)) fl_X8_145 rfl rfl dX8_feed_48 ?_
                  rw [hN1]
                  refine r_iload1 hR dX8_feed_51 ?_
                  refine r_bipush hR (nI 8) (by decide) dX8_feed_52 ?_
                  refine r_iload3 hR dX8_feed_54 ?_
                  refine r_imul hR dX8_feed_55 ?_
                  try rw [pk_mul]
                  refine r_ishr hR dX8_feed_56 ?_
                  refine r_sipush hR (nI 255) (by decide) dX8_feed_57 ?_
                  refine r_iand hR dX8_feed_60 ?_
                  rw [byte_t x (show k < 4 by omega)]
                  refine r_iast hR (by first | decide | assumption | (simp only [gcnt_4, gcnt_1, gcnt_2, gcnt_3, gcnt_12, gcnt_13, gcnt_16]; omega)) (fun _ => rfl) rfl (by omega) (by decide) dX8_feed_61 ?_
                  refine r_aload0 hR dX8_feed_62 ?_
                  refine r_dup hR rfl dX8_feed_63 ?_
                  refine r_get hR (by first | decide | assumption | (simp only [gcnt_4, gcnt_1, gcnt_2, gcnt_3, gcnt_12, gcnt_13, gcnt_16]; omega)) fl_X8_145 rfl rfl dX8_feed_64 ?_
                  rw [seti_r, if_neg (by omega), hN1]
                  refine r_iconst hR (nI 1) (by decide) dX8_feed_67 ?_
                  refine r_iadd hR dX8_feed_68 ?_
                  try rw [nI_add]
                  refine r_puti hR (by first | decide | assumption | (simp only [gcnt_4, gcnt_1, gcnt_2, gcnt_3, gcnt_12, gcnt_13, gcnt_16]; omega)) fp_X8_145 rfl rfl (Nat.le_of_ble_eq_true rfl) rfl rfl dX8_feed_69 ?_
                  refine r_iinc3 hR (-1) (by decide) (fun _ h => by first | (cases h; rfl) | exact absurd h (by simp)) dX8_feed_72 ?_
                  refine r_goto hR 39 dX8_feed_75 (by decide) ?_
                  omega
            | succ j ih =>
              intro i x3 N hij hx3 hNr hN2 hN1 hNT
              obtain ⟨k, hk⟩ : ∃ k, n - i = k + 1 := ⟨n - i - 1, by omega⟩
              rw [hk, pk_m1] at hx3
              subst hx3
              refine r_iload3 hR dX8_feed_39 ?_
              refine r_if_lt hR 78 dX8_feed_40 (by decide) (fun c40 => ?_) (fun c40 => ?_)
              · try simp (disch := omega) only [nI_ltI, nI_leI, nI_eq, bI_0, Decidable.not_not, lc_lt, lc_gt, lc_ge, lc_le, lc_eq, i64_toInt] at c40
                try simp (disch := omega) only [cv_lt, cv_le, cv_eq, nI_toInt, cv_0] at c40
                first
                | omega
                | refine r_aload0 hR dX8_feed_78 ?_
                  refine r_get hR (by first | decide | assumption | (simp only [gcnt_4, gcnt_1, gcnt_2, gcnt_3, gcnt_12, gcnt_13, gcnt_16]; omega)) fl_X8_145 rfl rfl dX8_feed_79 ?_
                  rw [hN1]
                  refine r_iret hR dX8_feed_82 ?_
                  omega
              · try simp (disch := omega) only [nI_ltI, nI_leI, nI_eq, bI_0, Decidable.not_not, lc_lt, lc_gt, lc_ge, lc_le, lc_eq, i64_toInt] at c40
                try simp (disch := omega) only [cv_lt, cv_le, cv_eq, nI_toInt, cv_0] at c40
                first
                | omega
                | refine r_aload0 hR dX8_feed_43 ?_
                  refine r_get hR (by first | decide | assumption | (simp only [gcnt_4, gcnt_1, gcnt_2, gcnt_3, gcnt_12, gcnt_13, gcnt_16]; omega)) fl_X8_28 rfl rfl dX8_feed_44 ?_
                  refine r_aload0 hR dX8_feed_47 ?_
                  refine r_get hR (by first | decide | assumption | (simp only [gcnt_4, gcnt_1, gcnt_2, gcnt_3, gcnt_12, gcnt_13, gcnt_16]; omega)) fl_X8_145 rfl rfl dX8_feed_48 ?_
                  rw [hN1]
                  refine r_iload1 hR dX8_feed_51 ?_
                  refine r_bipush hR (nI 8) (by decide) dX8_feed_52 ?_
                  refine r_iload3 hR dX8_feed_54 ?_
                  refine r_imul hR dX8_feed_55 ?_
                  try rw [pk_mul]
                  refine r_ishr hR dX8_feed_56 ?_
                  refine r_sipush hR (nI 255) (by decide) dX8_feed_57 ?_
                  refine r_iand hR dX8_feed_60 ?_
                  rw [byte_t x (show k < 4 by omega)]
                  refine r_iast hR (by first | decide | assumption | (simp only [gcnt_4, gcnt_1, gcnt_2, gcnt_3, gcnt_12, gcnt_13, gcnt_16]; omega)) (fun _ => rfl) rfl (by omega) (by decide) dX8_feed_61 ?_
                  refine r_aload0 hR dX8_feed_62 ?_
                  refine r_dup hR rfl dX8_feed_63 ?_
                  refine r_get hR (by first | decide | assumption | (simp only [gcnt_4, gcnt_1, gcnt_2, gcnt_3, gcnt_12, gcnt_13, gcnt_16]; omega)) fl_X8_145 rfl rfl dX8_feed_64 ?_
                  rw [seti_r, if_neg (by omega), hN1]
                  refine r_iconst hR (nI 1) (by decide) dX8_feed_67 ?_
                  refine r_iadd hR dX8_feed_68 ?_
                  try rw [nI_add]
                  refine r_puti hR (by first | decide | assumption | (simp only [gcnt_4, gcnt_1, gcnt_2, gcnt_3, gcnt_12, gcnt_13, gcnt_16]; omega)) fp_X8_145 rfl rfl (Nat.le_of_ble_eq_true rfl) rfl rfl dX8_feed_69 ?_
                  refine r_iinc3 hR (-1) (by decide) (fun _ h => by first | (cases h; rfl) | exact absurd h (by simp)) dX8_feed_72 ?_
                  refine r_goto hR 39 dX8_feed_75 (by decide) ?_
                  exact ih (i + 1) _ _ (by omega) (by rw [show n - (i + 1) = k by omega]) (fun r a b c d => by rw [seti_r, if_neg (by omega), seti_r, if_neg (by omega)]; exact hNr r a b c d) hN2 (by rw [seti_r, if_pos ⟨rfl, rfl, rfl⟩, Nat.add_assoc]) (fun j hj => by
                    rw [seti_r, if_neg (by omega), seti_r]
                    by_cases q : j = al A + i
                    · rw [if_pos ⟨rfl, rfl, q⟩]
                      show _ = nI (if _ then _ else _)
                      rw [if_pos (by omega), show n - 1 - (j - al A) = k by omega]
                    · rw [if_neg (fun y => q y.2.2)]
                      exact hNT j (by omega))
          refine r_iload2 hR dX8_feed_35 ?_
          refine r_iconst hR (nI 1) (by decide) dX8_feed_36 ?_
          refine r_isub hR dX8_feed_37 ?_
          refine r_istore3 hR (fun _ h => by first | (cases h; rfl) | exact absurd h (by simp)) dX8_feed_38 ?_
          exact L n 0 _ M (by omega) (sub1_e n) (fun r _ _ _ _ => rfl) rfl hlp (fun j hj => by
            show _ = nI (if _ then _ else _)
            rw [if_neg (by omega)]
            exact htp j hj)
      · try simp (disch := omega) only [nI_ltI, nI_leI, nI_eq, bI_0, Decidable.not_not, lc_lt, lc_gt, lc_ge, lc_le, lc_eq, i64_toInt] at c25
        try simp (disch := omega) only [cv_lt, cv_le, cv_eq, nI_toInt, cv_0] at c25
        first
        | omega
        | refine r_aload0 hR dX8_feed_28 ?_
          refine r_ldc hR ct_X8_93 dX8_feed_29 ?_
          refine r_cv1v hR kv_X8_43 (by decide) (t_X8_findsC (n := 1) (by decide) (by decide)) (by first | decide | assumption | (simp only [gcnt_4, gcnt_1, gcnt_2, gcnt_3, gcnt_12, gcnt_13, gcnt_16]; omega)) rfl rfl (Nat.le_of_ble_eq_true rfl) dX8_feed_31 ?_
          refine r_iret hR dX8_feed_34 ?_
          rw [e, if_pos (by omega)]
          exact Qm_fnd hc (by decide) rfl
  · try simp (disch := omega) only [nI_ltI, nI_leI, nI_eq, bI_0, Decidable.not_not, lc_lt, lc_gt, lc_ge, lc_le, lc_eq, i64_toInt] at c7
    try simp (disch := omega) only [cv_lt, cv_le, cv_eq, nI_toInt, cv_0] at c7
    first
    | omega
    | refine r_aload0 hR dX8_feed_10 ?_
      refine r_ldc hR ct_X8_41 dX8_feed_11 ?_
      refine r_cv1v hR kv_X8_43 (by decide) (t_X8_findsC (n := 0) (by decide) (by decide)) (by first | decide | assumption | (simp only [gcnt_4, gcnt_1, gcnt_2, gcnt_3, gcnt_12, gcnt_13, gcnt_16]; omega)) rfl rfl (Nat.le_of_ble_eq_true rfl) dX8_feed_13 ?_
      refine r_iret hR dX8_feed_16 ?_
      refine Qm_fnd hc (by decide) ?_
      unfold oFeed
      dsimp only [okI, okT]
      (repeat' split) <;> first | rfl | omega

