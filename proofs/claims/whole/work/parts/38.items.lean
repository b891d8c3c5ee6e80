/-! ITEMS OF THE TEXT (1: a fault; what stands in the sea then is as the reference leaves it) -/
abbrev isNum (L : Lx) (m : Nat) : Prop := L.1 = 20 ∧ L.2.2.2 ≤ m
def rotM (T : Nat → Nat) (l : Nat) : Nat → Nat → (Nat → Nat) → Lx → Nat × (Nat → Nat) × Lx
  | 0, _, S, L => (0, S, L)
  | n + 1, d, S, L => if 0 < d ∧ ¬ L.1 = 20 then (0, S, L) else if isNum L 8 then rotM T l n (d + 1) (va_up S (4 + d) L.2.2.2) (lexN T l L.2.2.1) else (1, va_up S (4 + d) L.2.2.2, L)
def thiF (T : Nat → Nat) (l : Nat) (S : Nat → Nat) (k ce : Nat) (L : Lx) : Nat × (Nat → Nat) × Lx :=
  if L.1 = 7 then (if isNum (lexN T l L.2.2.1) 7 then (0, addS S k ce (lexN T l L.2.2.1).2.2.2, lexN T l (lexN T l L.2.2.1).2.2.1) else (1, S, lexN T l L.2.2.1)) else (0, addS S k ce 0, L)
def thiC (T : Nat → Nat) (l : Nat) (S : Nat → Nat) (k : Nat) (L : Lx) : Nat × (Nat → Nat) × Lx :=
  if isNum L 35 then thiF T l S k L.2.2.2 (lexN T l L.2.2.1) else (1, S, L)
def thiM (T : Nat → Nat) (l : Nat) (S : Nat → Nat) (L : Lx) : Nat × (Nat → Nat) × Lx :=
  if S 3 = 8 then (1, S, L) else if (lexN T l L.2.2.1).1 = 6 then thiC T l S L.1 (lexN T l (lexN T l L.2.2.1).2.2.1) else (1, S, lexN T l L.2.2.1)
def illM (T : Nat → Nat) (l : Nat) (S : Nat → Nat) (v : Nat) (L : Lx) : Nat × (Nat → Nat) × Lx :=
  if isNum L 7 then (0, va_up S 2 (mkS (S 2) L.2.2.2 v), lexN T l L.2.2.1) else (1, S, L)
def forM (T : Nat → Nat) (l : Nat) (S : Nat → Nat) (L : Lx) : Nat × (Nat → Nat) × Lx :=
  if isNum L 9 then (0, va_up S 1 L.2.2.2, lexN T l L.2.2.1) else (1, va_up S 1 L.2.2.2, L)
def iteM (T : Nat → Nat) (l : Nat) (S : Nat → Nat) (L : Lx) : Nat × (Nat → Nat) × Lx :=
  if L.1 ≤ 5 then thiM T l S L else if L.1 = 8 then rotM T l 7 0 S (lexN T l L.2.2.1) else if L.1 = 9 ∨ L.1 = 10 then illM T l S (if L.1 = 9 then 1 else 0) (lexN T l L.2.2.1) else if L.1 = 11 then forM T l S (lexN T l L.2.2.1) else (1, S, L)
/-- what holds of every token -/
def lxB (l : Nat) (L : Lx) : Prop := L.1 ≤ 23 ∧ L.2.1 ≤ l ∧ L.2.2.1 ≤ l ∧ L.2.2.2 ≤ 10245 ∧ L.2.1 ≤ L.2.2.1 ∧ (¬ L.1 = 22 → L.2.1 < L.2.2.1)
theorem word_le (T : Nat → Nat) (b n : Nat) : wordOf T b n ≤ 23 ∧ ¬ wordOf T b n = 22 := by
  have := first_le (wIs T b n) 12 0
  unfold wordOf
  split <;> omega
theorem lexN_B {T : Nat → Nat} (hT : ∀ j, T j < 256) {l p : Nat} (h : p ≤ l) : lxB l (lexN T l p) ∧ p ≤ (lexN T l p).2.1 := by
  have r := run_le (c := cSp) (T := T) h
  unfold lexN lexB lxB
  generalize run cSp T l p = b at r
  by_cases e : b = l
  · rw [if_pos e]; dsimp only; omega
  rw [if_neg e]
  by_cases e2 : cLe (T b) = true
  · rw [if_pos e2]
    have r2 := run_le (c := cLe) (T := T) (l := l) (p := b + 1) (by omega)
    rw [run_st (by omega) e2]
    have := word_le T b (run cLe T l (b + 1) - b)
    dsimp only
    omega
  rw [if_neg e2]
  by_cases e3 : cDi (T b) = true
  · rw [if_pos e3]
    have r2 := run_le (c := cDi) (T := T) (l := l) (p := b + 1) (by omega)
    rw [run_st (by omega) e3]
    have := valP_le hT b (run cDi T l (b + 1) - b)
    dsimp only
    omega
  rw [if_neg e3]
  dsimp only
  split <;> omega
/-! the reference's memory while it reads -/
def rM (M : gM) (L : Lx) (b : Nat) : gM := seti (lxM M L) 15 0 13 (nI b)
theorem rM_r (M : gM) (L : Lx) (b r i k : Nat) : (rM M L b).1 r i k = if r = 15 ∧ i = 0 ∧ k = 13 then nI b else if r = 15 ∧ i = 0 ∧ k = 9 then nI L.1 else if r = 15 ∧ i = 0 ∧ k = 11 then nI L.2.2.1 else if r = 15 ∧ i = 0 ∧ k = 12 then nI L.2.2.2 else if r = 15 ∧ i = 0 ∧ k = 10 then nI L.2.1 else M.1 r i k := by
  unfold rM lxM X8
  rw [seti_r, seti_r, seti_r, seti_r, seti_r]
theorem rM_9 (M : gM) (L : Lx) (b : Nat) : (rM M L b).1 15 0 9 = nI L.1 := by rw [rM_r, if_neg (by omega), if_pos ⟨rfl, rfl, rfl⟩]
theorem rM_10 (M : gM) (L : Lx) (b : Nat) : (rM M L b).1 15 0 10 = nI L.2.1 := by rw [rM_r, if_neg (by omega), if_neg (by omega), if_neg (by omega), if_neg (by omega), if_pos ⟨rfl, rfl, rfl⟩]
theorem rM_11 (M : gM) (L : Lx) (b : Nat) : (rM M L b).1 15 0 11 = nI L.2.2.1 := by rw [rM_r, if_neg (by omega), if_neg (by omega), if_pos ⟨rfl, rfl, rfl⟩]
theorem rM_12 (M : gM) (L : Lx) (b : Nat) : (rM M L b).1 15 0 12 = nI L.2.2.2 := by rw [rM_r, if_neg (by omega), if_neg (by omega), if_neg (by omega), if_pos ⟨rfl, rfl, rfl⟩]
theorem rM_13 (M : gM) (L : Lx) (b : Nat) : (rM M L b).1 15 0 13 = nI b := by rw [rM_r, if_pos ⟨rfl, rfl, rfl⟩]
theorem rM_o (M : gM) (L : Lx) (b : Nat) {r i k : Nat} (h : ¬ r = 15 ∨ k < 9) : (rM M L b).1 r i k = M.1 r i k := by rw [rM_r, if_neg (by omega), if_neg (by omega), if_neg (by omega), if_neg (by omega), if_neg (by omega)]
theorem rM_lx (M : gM) (L L' : Lx) (b : Nat) : lxM (rM M L b) L' = rM M L' b := by
  refine gM_ext (fun r i k => ?_) rfl
  rw [rM_r]
  unfold lxM X8
  rw [seti_r, seti_r, seti_r, seti_r, rM_r]
  (repeat' split) <;> first | rfl | omega
theorem rM_bad (M : gM) (L : Lx) (b b' : Nat) : seti (rM M L b) 15 0 13 (nI b') = rM M L b' := seti_seti _ _ _ _ _ _
theorem rM_pm (M : gM) (L : Lx) (b : Nat) (S : Nat → Nat) : pm (rM M L b) S = rM (pm M S) L b := by
  refine gM_ext (fun r i k => ?_) rfl
  rw [rM_r, putR_r, putR_r, rM_r]
  (repeat' split) <;> first | rfl | omega
theorem rM_row (M : gM) (L : Lx) (b k : Nat) (x : Int32) : seti (rM M L b) 16 0 k x = rM (seti M 16 0 k x) L b := by
  refine gM_ext (fun r i j => ?_) rfl
  rw [rM_r, seti_r, seti_r, rM_r]
  (repeat' split) <;> first | rfl | omega
theorem rM_rowP {M : gM} {L : Lx} {b : Nat} {S : Nat → Nat} (h : rowP M 0 S) : rowP (rM M L b) 0 S := fun k hk => by rw [rM_o M L b (by omega)]; exact h k hk
theorem rM_tap {M : gM} {L : Lx} {b l : Nat} {T : Nat → Nat} (h : tapP M T l) : tapP (rM M L b) T l := ⟨by rw [rM_o M L b (by omega)]; exact h.1, fun j hj => by rw [rM_o M L b (by omega)]; exact h.2.1 j hj, h.2.2⟩
theorem pm_tap {M : gM} {l : Nat} {T S : Nat → Nat} (h : tapP M T l) : tapP (pm M S) T l := ⟨by rw [putR_far _ _ _ (by omega)]; exact h.1, fun j hj => by rw [putR_far _ _ _ (by omega)]; exact h.2.1 j hj, h.2.2⟩
theorem adM_pm {M : gM} {S : Nat → Nat} {k c f : Nat} (h : rowP M 0 S) : adM M (S 3) k c f = pm M (addS S k c f) := by
  have hr := rowP_add (k := k) (c := c) (f := f) h
  have e3 : addS S k c f 3 = S 3 + 1 := rfl
  refine gM_ext (fun r i j => ?_) rfl
  rw [putR_r]
  by_cases z : r = 16 ∧ i = 0 ∧ j < 11 + 4 * addS S k c f 3
  · obtain ⟨rfl, rfl, z⟩ := z
    rw [if_pos ⟨rfl, rfl, z⟩]
    exact hr j z
  · rw [if_neg z, seti_r, if_neg (by omega), seti_r, if_neg (by omega), seti_r, if_neg (by omega), seti_r, if_neg (by omega), seti_r, if_neg (by omega)]
theorem pm_up {M : gM} {S : Nat → Nat} {k v : Nat} (h : rowP M 0 S) (hk : k < 11 + 4 * S 3) (hk3 : ¬ k = 3) : seti M 16 0 k (nI v) = pm M (va_up S k v) := by
  have e := pm_seti M S (v := v) hk hk3
  rw [pm_id h] at e
  exact e
set_option maxHeartbeats 4000000 in
set_option maxRecDepth 100000 in
theorem t_X8_passes {G : gG} {M : gM} {T : Nat → Nat} {l : Nat} {L : Lx} {b : Nat} (h : tapP M T l) (hL : lxB l L) (hb : b < 2) {w : Nat} (hw : w < 30) : Cf G mX8_passes 3 [.ref (ad G 15 0), .int (nI w)] (rM M L b) (some (.int (bI (b = 0 ∧ L.1 = w)))) (rM M (if b = 0 ∧ L.1 = w then lexN T l L.2.2.1 else L) b) := by
  obtain ⟨b1, b2, b3, b4, b5, b6⟩ := id hL
  refine Ct.of (by decide +kernel) (k := 0) (ls0 := [some (.ref (ad G 15 0)), some (.int (nI w))]) rfl rfl (fun _ _ => trivial) ?_
  intro P hR
  refine r_aload0 hR dX8_passes_0 ?_
  refine r_get hR (by first | decide | assumption | (simp only [gcnt_4, gcnt_1, gcnt_2, gcnt_3, gcnt_12, gcnt_13, gcnt_16]; omega)) fl_X8_174 rfl rfl dX8_passes_1 ?_
  try simp only [rM_9, rM_10, rM_11, rM_12, rM_13]
  refine r_if_ne hR 15 dX8_passes_4 (by decide) (fun c4 => ?_) (fun c4 => ?_)
  · try simp (disch := omega) only [nI_ltI, nI_leI, nI_eq, bI_0, Decidable.not_not, lc_lt, lc_gt, lc_ge, lc_le, lc_eq, i64_toInt] at c4
    try simp (disch := omega) only [cv_lt, cv_le, cv_eq, nI_toInt, cv_0] at c4
    first
    | omega
    | refine r_iconst hR (nI 0) (by decide) dX8_passes_15 ?_
      refine r_zret hR dX8_passes_16 rfl ?_
      rw [bI_f (by omega), if_neg (by omega)]
      exact ⟨rfl, rfl⟩
  · try simp (disch := omega) only [nI_ltI, nI_leI, nI_eq, bI_0, Decidable.not_not, lc_lt, lc_gt, lc_ge, lc_le, lc_eq, i64_toInt] at c4
    try simp (disch := omega) only [cv_lt, cv_le, cv_eq, nI_toInt, cv_0] at c4
    first
    | omega
    | refine r_aload0 hR dX8_passes_7 ?_
      refine r_get hR (by first | decide | assumption | (simp only [gcnt_4, gcnt_1, gcnt_2, gcnt_3, gcnt_12, gcnt_13, gcnt_16]; omega)) fl_X8_168 rfl rfl dX8_passes_8 ?_
      try simp only [rM_9, rM_10, rM_11, rM_12, rM_13]
      refine r_iload1 hR dX8_passes_11 ?_
      refine r_icmp_eq hR 17 dX8_passes_12 (by decide) (fun c12 => ?_) (fun c12 => ?_)
      · try simp (disch := omega) only [nI_ltI, nI_leI, nI_eq, bI_0, Decidable.not_not, lc_lt, lc_gt, lc_ge, lc_le, lc_eq, i64_toInt] at c12
        try simp (disch := omega) only [cv_lt, cv_le, cv_eq, nI_toInt, cv_0] at c12
        first
        | omega
        | refine r_aload0 hR dX8_passes_17 ?_
          refine r_cv0u hR kv_X8_178 (by decide) (t_X8_reads (rM_tap h) (rM_11 _ _ _) b3) (by first | decide | assumption | (simp only [gcnt_4, gcnt_1, gcnt_2, gcnt_3, gcnt_12, gcnt_13, gcnt_16]; omega)) rfl rfl (Nat.le_of_ble_eq_true rfl) dX8_passes_18 ?_
          rw [rM_lx]
          refine r_iconst hR (nI 1) (by decide) dX8_passes_21 ?_
          refine r_zret hR dX8_passes_22 rfl ?_
          rw [bI_t (by omega), if_pos (by omega)]
          exact ⟨rfl, rfl⟩
      · try simp (disch := omega) only [nI_ltI, nI_leI, nI_eq, bI_0, Decidable.not_not, lc_lt, lc_gt, lc_ge, lc_le, lc_eq, i64_toInt] at c12
        try simp (disch := omega) only [cv_lt, cv_le, cv_eq, nI_toInt, cv_0] at c12
        first
        | omega
        | refine r_iconst hR (nI 0) (by decide) dX8_passes_15 ?_
          refine r_zret hR dX8_passes_16 rfl ?_
          rw [bI_f (by omega), if_neg (by omega)]
          exact ⟨rfl, rfl⟩

set_option maxHeartbeats 4000000 in
set_option maxRecDepth 100000 in
theorem t_X8_number {G : gG} {M : gM} {T : Nat → Nat} {l : Nat} {L : Lx} {b : Nat} (h : tapP M T l) (hL : lxB l L) (hb : b < 2) {m : Nat} (hm : m < 100) : Cf G mX8_number 3 [.ref (ad G 15 0), .int (nI 0), .int (nI m)] (rM M L b) (some (.int (nI L.2.2.2))) (rM M (if b = 0 ∧ isNum L m then lexN T l L.2.2.1 else L) (if b = 0 ∧ isNum L m then 0 else 1)) := by
  obtain ⟨b1, b2, b3, b4, b5, b6⟩ := id hL
  refine Ct.of (by decide +kernel) (k := 1) (ls0 := [some (.ref (ad G 15 0)), some (.int (nI 0)), some (.int (nI m)), none]) rfl rfl (fun _ _ => trivial) ?_
  intro P hR
  have J37 : P 37 [some (.ref (ad G 15 0)), some (.int (nI 0)), some (.int (nI m)), some (.int (nI L.2.2.2))] [.int (bI (¬ (b = 0 ∧ isNum L m))), .ref (ad G 15 0)] (rM M L b) := by
    by_cases hq : b = 0 ∧ isNum L m
    · rw [bI_f (fun z => z hq)]
      refine r_puti hR (by first | decide | assumption | (simp only [gcnt_4, gcnt_1, gcnt_2, gcnt_3, gcnt_12, gcnt_13, gcnt_16]; omega)) fp_X8_174 rfl rfl (Nat.le_of_ble_eq_true rfl) rfl rfl dX8_number_37 ?_
      rw [rM_bad]
      refine r_aload0 hR dX8_number_40 ?_
      refine r_get hR (by first | decide | assumption | (simp only [gcnt_4, gcnt_1, gcnt_2, gcnt_3, gcnt_12, gcnt_13, gcnt_16]; omega)) fl_X8_174 rfl rfl dX8_number_41 ?_
      try simp only [rM_9, rM_10, rM_11, rM_12, rM_13]
      refine r_if_ne hR 51 dX8_number_44 (by decide) (fun c44 => absurd c44 (fun q => q rfl)) (fun c44 => ?_)
      refine r_aload0 hR dX8_number_47 ?_
      refine r_cv0u hR kv_X8_178 (by decide) (t_X8_reads (rM_tap h) (rM_11 _ _ _) b3) (by first | decide | assumption | (simp only [gcnt_4, gcnt_1, gcnt_2, gcnt_3, gcnt_12, gcnt_13, gcnt_16]; omega)) rfl rfl (Nat.le_of_ble_eq_true rfl) dX8_number_48 ?_
      rw [rM_lx]
      refine r_iload3 hR dX8_number_51 ?_
      refine r_iret hR dX8_number_52 ?_
      rw [if_pos hq, if_pos hq]
      exact ⟨rfl, rfl⟩
    · rw [bI_t hq]
      refine r_puti hR (by first | decide | assumption | (simp only [gcnt_4, gcnt_1, gcnt_2, gcnt_3, gcnt_12, gcnt_13, gcnt_16]; omega)) fp_X8_174 rfl rfl (Nat.le_of_ble_eq_true rfl) rfl rfl dX8_number_37 ?_
      rw [rM_bad]
      refine r_aload0 hR dX8_number_40 ?_
      refine r_get hR (by first | decide | assumption | (simp only [gcnt_4, gcnt_1, gcnt_2, gcnt_3, gcnt_12, gcnt_13, gcnt_16]; omega)) fl_X8_174 rfl rfl dX8_number_41 ?_
      try simp only [rM_9, rM_10, rM_11, rM_12, rM_13]
      refine r_if_ne hR 51 dX8_number_44 (by decide) (fun c44 => ?_) (fun c44 => absurd c44 (by decide))
      refine r_iload3 hR dX8_number_51 ?_
      refine r_iret hR dX8_number_52 ?_
      rw [if_neg hq, if_neg hq]
      exact ⟨rfl, rfl⟩
  refine r_aload0 hR dX8_number_0 ?_
  refine r_get hR (by first | decide | assumption | (simp only [gcnt_4, gcnt_1, gcnt_2, gcnt_3, gcnt_12, gcnt_13, gcnt_16]; omega)) fl_X8_165 rfl rfl dX8_number_1 ?_
  try simp only [rM_9, rM_10, rM_11, rM_12, rM_13]
  refine r_istore3 hR (fun _ h => by first | (cases h; rfl) | exact absurd h (by simp)) dX8_number_4 ?_
  refine r_aload0 hR dX8_number_5 ?_
  refine r_aload0 hR dX8_number_6 ?_
  refine r_get hR (by first | decide | assumption | (simp only [gcnt_4, gcnt_1, gcnt_2, gcnt_3, gcnt_12, gcnt_13, gcnt_16]; omega)) fl_X8_174 rfl rfl dX8_number_7 ?_
  try simp only [rM_9, rM_10, rM_11, rM_12, rM_13]
  refine r_if_ne hR 32 dX8_number_10 (by decide) (fun c10 => ?_) (fun c10 => ?_)
  · try simp (disch := omega) only [nI_ltI, nI_leI, nI_eq, bI_0, Decidable.not_not, lc_lt, lc_gt, lc_ge, lc_le, lc_eq, i64_toInt] at c10
    try simp (disch := omega) only [cv_lt, cv_le, cv_eq, nI_toInt, cv_0] at c10
    first
    | omega
    | refine r_iconst hR (nI 1) (by decide) dX8_number_32 ?_
      refine r_goto hR 37 dX8_number_33 (by decide) ?_
      refine r_nm (bI (¬ (b = 0 ∧ isNum L m))) ?_ J37
      first
      | exact (bI_t (by omega)).symm
      | exact (bI_f (by omega)).symm
  · try simp (disch := omega) only [nI_ltI, nI_leI, nI_eq, bI_0, Decidable.not_not, lc_lt, lc_gt, lc_ge, lc_le, lc_eq, i64_toInt] at c10
    try simp (disch := omega) only [cv_lt, cv_le, cv_eq, nI_toInt, cv_0] at c10
    first
    | omega
    | refine r_aload0 hR dX8_number_13 ?_
      refine r_get hR (by first | decide | assumption | (simp only [gcnt_4, gcnt_1, gcnt_2, gcnt_3, gcnt_12, gcnt_13, gcnt_16]; omega)) fl_X8_168 rfl rfl dX8_number_14 ?_
      try simp only [rM_9, rM_10, rM_11, rM_12, rM_13]
      refine r_bipush hR (nI 20) (by decide) dX8_number_17 ?_
      refine r_icmp_ne hR 32 dX8_number_19 (by decide) (fun c19 => ?_) (fun c19 => ?_)
      · try simp (disch := omega) only [nI_ltI, nI_leI, nI_eq, bI_0, Decidable.not_not, lc_lt, lc_gt, lc_ge, lc_le, lc_eq, i64_toInt] at c19
        try simp (disch := omega) only [cv_lt, cv_le, cv_eq, nI_toInt, cv_0] at c19
        first
        | omega
        | refine r_iconst hR (nI 1) (by decide) dX8_number_32 ?_
          refine r_goto hR 37 dX8_number_33 (by decide) ?_
          refine r_nm (bI (¬ (b = 0 ∧ isNum L m))) ?_ J37
          first
          | exact (bI_t (by omega)).symm
          | exact (bI_f (by omega)).symm
      · try simp (disch := omega) only [nI_ltI, nI_leI, nI_eq, bI_0, Decidable.not_not, lc_lt, lc_gt, lc_ge, lc_le, lc_eq, i64_toInt] at c19
        try simp (disch := omega) only [cv_lt, cv_le, cv_eq, nI_toInt, cv_0] at c19
        first
        | omega
        | refine r_iload3 hR dX8_number_22 ?_
          refine r_i2l hR dX8_number_23 ?_
          refine r_iload1 hR dX8_number_24 ?_
          refine r_iload2 hR dX8_number_25 ?_
          refine r_cs3v hR ks_X8_47 (by decide) (t_X8_in) (Nat.le_of_ble_eq_true rfl) dX8_number_26 ?_
          refine r_if_ne hR 36 dX8_number_29 (by decide) (fun c29 => ?_) (fun c29 => ?_)
          · try simp (disch := omega) only [nI_ltI, nI_leI, nI_eq, bI_0, Decidable.not_not, lc_lt, lc_gt, lc_ge, lc_le, lc_eq, i64_toInt] at c29
            try simp (disch := omega) only [cv_lt, cv_le, cv_eq, nI_toInt, cv_0] at c29
            first
            | omega
            | refine r_iconst hR (nI 0) (by decide) dX8_number_36 ?_
              refine r_nm (bI (¬ (b = 0 ∧ isNum L m))) ?_ J37
              first
              | exact (bI_t (by omega)).symm
              | exact (bI_f (by omega)).symm
          · try simp (disch := omega) only [nI_ltI, nI_leI, nI_eq, bI_0, Decidable.not_not, lc_lt, lc_gt, lc_ge, lc_le, lc_eq, i64_toInt] at c29
            try simp (disch := omega) only [cv_lt, cv_le, cv_eq, nI_toInt, cv_0] at c29
            first
            | omega
            | refine r_iconst hR (nI 1) (by decide) dX8_number_32 ?_
              refine r_goto hR 37 dX8_number_33 (by decide) ?_
              refine r_nm (bI (¬ (b = 0 ∧ isNum L m))) ?_ J37
              first
              | exact (bI_t (by omega)).symm
              | exact (bI_f (by omega)).symm

