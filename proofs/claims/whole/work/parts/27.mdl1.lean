set_option maxHeartbeats 4000000 in
set_option maxRecDepth 100000 in
theorem t_X8_finds {G : gG} {M : gM} {n : Nat} (hn : n < 7) : Cf G mX8_finds 0 [.ref (ad G 15 0), .int (-1000000001 - nI n)] M (some (.int (-1000000001 - nI n))) (seti M 17 0 n (M.1 17 0 n + nI 1)) := by
  refine Ct.of (by decide +kernel) (k := 0) (ls0 := [some (.ref (ad G 15 0)), some (.int (-1000000001 - nI n))]) rfl rfl (fun _ _ => trivial) ?_
  intro P hR
  refine r_aload0 hR dX8_finds_0 ?_
  refine r_get hR (by first | decide | assumption | (simp only [gcnt_4, gcnt_1, gcnt_2, gcnt_3, gcnt_12, gcnt_13, gcnt_16]; omega)) fl_X8_19 rfl rfl dX8_finds_1 ?_
  refine r_ldc hR ct_X8_41 dX8_finds_4 ?_
  refine r_iload1 hR dX8_finds_6 ?_
  refine r_isub hR dX8_finds_7 ?_
  refine r_nm (nI n) (fnd_t n hn) ?_
  refine r_dup2 hR rfl rfl dX8_finds_8 ?_
  refine r_iald hR (by first | decide | assumption | (simp only [gcnt_4, gcnt_1, gcnt_2, gcnt_3, gcnt_12, gcnt_13, gcnt_16]; omega)) rfl rfl (by omega) (by decide) dX8_finds_9 ?_
  refine r_iconst hR (nI 1) (by decide) dX8_finds_10 ?_
  refine r_iadd hR dX8_finds_11 ?_
  try rw [nI_add]
  refine r_iast hR (by first | decide | assumption | (simp only [gcnt_4, gcnt_1, gcnt_2, gcnt_3, gcnt_12, gcnt_13, gcnt_16]; omega)) (fun _ => rfl) rfl (by omega) (by decide) dX8_finds_12 ?_
  refine r_iload1 hR dX8_finds_13 ?_
  refine r_iret hR dX8_finds_14 ?_
  exact ⟨rfl, rfl⟩

theorem t_X8_findsC {G : gG} {M : gM} {c : Int32} {n : Nat} (hc : c = -1000000001 - nI n) (hn : n < 7) : Cf G mX8_finds 0 [.ref (ad G 15 0), .int c] M (some (.int (-1000000001 - nI n))) (seti M 17 0 n (M.1 17 0 n + nI 1)) := by
  subst hc
  exact t_X8_finds hn
set_option maxHeartbeats 4000000 in
set_option maxRecDepth 100000 in
theorem t_X8_orNone {G : gG} {M : gM} {x : Int32} : Cf G mX8_orNone 1 [.ref (ad G 15 0), .int x] M (some (.int (if x.toInt < 0 then -1000000001 - nI 3 else x))) (if x.toInt < 0 then seti M 17 0 3 (M.1 17 0 3 + nI 1) else M) := by
  refine Ct.of (by decide +kernel) (k := 0) (ls0 := [some (.ref (ad G 15 0)), some (.int x)]) rfl rfl (fun _ _ => trivial) ?_
  intro P hR
  refine r_iload1 hR dX8_orNone_0 ?_
  refine r_if_ge hR 13 dX8_orNone_1 (by decide) (fun c1 => ?_) (fun c1 => ?_)
  · try simp (disch := omega) only [nI_ltI, nI_leI, nI_eq, bI_0, Decidable.not_not, lc_lt, lc_gt, lc_ge, lc_le, lc_eq, i64_toInt] at c1
    try simp (disch := omega) only [cv_lt, cv_le, cv_eq, nI_toInt, cv_0] at c1
    first
    | omega
    | refine r_iload1 hR dX8_orNone_13 ?_
      refine r_iret hR dX8_orNone_14 ?_
      first
      | (rw [if_neg (by omega), if_neg (by omega)]; exact ⟨rfl, rfl⟩)
      | (rw [if_pos (by omega), if_pos (by omega)]; exact ⟨rfl, rfl⟩)
  · try simp (disch := omega) only [nI_ltI, nI_leI, nI_eq, bI_0, Decidable.not_not, lc_lt, lc_gt, lc_ge, lc_le, lc_eq, i64_toInt] at c1
    try simp (disch := omega) only [cv_lt, cv_le, cv_eq, nI_toInt, cv_0] at c1
    first
    | omega
    | refine r_aload0 hR dX8_orNone_4 ?_
      refine r_ldc hR ct_X8_42 dX8_orNone_5 ?_
      refine r_cv1v hR kv_X8_43 (by decide) (t_X8_findsC (n := 3) (by decide) (by decide)) (by first | decide | assumption | (simp only [gcnt_4, gcnt_1, gcnt_2, gcnt_3, gcnt_12, gcnt_13, gcnt_16]; omega)) rfl rfl (Nat.le_of_ble_eq_true rfl) dX8_orNone_7 ?_
      refine r_goto hR 14 dX8_orNone_10 (by decide) ?_
      refine r_iret hR dX8_orNone_14 ?_
      first
      | (rw [if_neg (by omega), if_neg (by omega)]; exact ⟨rfl, rfl⟩)
      | (rw [if_pos (by omega), if_pos (by omega)]; exact ⟨rfl, rfl⟩)

set_option maxHeartbeats 4000000 in
set_option maxRecDepth 100000 in
theorem t_X8_copyAll {G : gG} {M : gM} {a b : Nat} (ha : a < 3) (hb : b < 3) (hab : ¬ a = b) : Cf G mX8_copyAll 0 [.ref (ad G 16 a), .ref (ad G 16 b)] M none (cpR M a b 43) := by
  refine Ct.of (by decide +kernel) (k := 1) (ls0 := [some (.ref (ad G 16 a)), some (.ref (ad G 16 b)), none]) rfl rfl (fun _ _ => trivial) ?_
  intro P hR
  have L : ∀ (j i : Nat), i + j = 43 → P 2 [some (.ref (ad G 16 a)), some (.ref (ad G 16 b)), some (.int (nI i))] [] (cpR M a b i) := by
    intro j
    induction j with
    | zero =>
      intro i  hij 
      refine r_iload2 hR dX8_copyAll_2 ?_
      refine r_bipush hR (nI 43) (by decide) dX8_copyAll_3 ?_
      refine r_icmp_ge hR 20 dX8_copyAll_5 (by decide) (fun c5 => ?_) (fun c5 => ?_)
      · try simp (disch := omega) only [nI_ltI, nI_leI, nI_eq, bI_0, Decidable.not_not, lc_lt, lc_gt, lc_ge, lc_le, lc_eq, i64_toInt] at c5
        try simp (disch := omega) only [cv_lt, cv_le, cv_eq, nI_toInt, cv_0] at c5
        first
        | omega
        | refine r_vret hR dX8_copyAll_20 ?_
          obtain rfl : i = 43 := by omega
          exact ⟨rfl, rfl⟩
      · try simp (disch := omega) only [nI_ltI, nI_leI, nI_eq, bI_0, Decidable.not_not, lc_lt, lc_gt, lc_ge, lc_le, lc_eq, i64_toInt] at c5
        try simp (disch := omega) only [cv_lt, cv_le, cv_eq, nI_toInt, cv_0] at c5
        first
        | omega
        | refine r_aload1 hR dX8_copyAll_8 ?_
          refine r_iload2 hR dX8_copyAll_9 ?_
          refine r_aload0 hR dX8_copyAll_10 ?_
          refine r_iload2 hR dX8_copyAll_11 ?_
          refine r_iald hR (by first | decide | assumption | (simp only [gcnt_4, gcnt_1, gcnt_2, gcnt_3, gcnt_12, gcnt_13, gcnt_16]; omega)) rfl rfl (by omega) (by decide) dX8_copyAll_12 ?_
          refine r_iast hR (by first | decide | assumption | (simp only [gcnt_4, gcnt_1, gcnt_2, gcnt_3, gcnt_12, gcnt_13, gcnt_16]; omega)) (fun _ => rfl) rfl (by omega) (by decide) dX8_copyAll_13 ?_
          refine r_iinc2 hR (nI 1) (by decide) (fun _ h => by first | (cases h; rfl) | exact absurd h (by simp)) dX8_copyAll_14 ?_
          try rw [nI_add]
          refine r_goto hR 2 dX8_copyAll_17 (by decide) ?_
          omega
    | succ j ih =>
      intro i  hij 
      refine r_iload2 hR dX8_copyAll_2 ?_
      refine r_bipush hR (nI 43) (by decide) dX8_copyAll_3 ?_
      refine r_icmp_ge hR 20 dX8_copyAll_5 (by decide) (fun c5 => ?_) (fun c5 => ?_)
      · try simp (disch := omega) only [nI_ltI, nI_leI, nI_eq, bI_0, Decidable.not_not, lc_lt, lc_gt, lc_ge, lc_le, lc_eq, i64_toInt] at c5
        try simp (disch := omega) only [cv_lt, cv_le, cv_eq, nI_toInt, cv_0] at c5
        first
        | omega
        | refine r_vret hR dX8_copyAll_20 ?_
          obtain rfl : i = 43 := by omega
          exact ⟨rfl, rfl⟩
      · try simp (disch := omega) only [nI_ltI, nI_leI, nI_eq, bI_0, Decidable.not_not, lc_lt, lc_gt, lc_ge, lc_le, lc_eq, i64_toInt] at c5
        try simp (disch := omega) only [cv_lt, cv_le, cv_eq, nI_toInt, cv_0] at c5
        first
        | omega
        | refine r_aload1 hR dX8_copyAll_8 ?_
          refine r_iload2 hR dX8_copyAll_9 ?_
          refine r_aload0 hR dX8_copyAll_10 ?_
          refine r_iload2 hR dX8_copyAll_11 ?_
          refine r_iald hR (by first | decide | assumption | (simp only [gcnt_4, gcnt_1, gcnt_2, gcnt_3, gcnt_12, gcnt_13, gcnt_16]; omega)) rfl rfl (by omega) (by decide) dX8_copyAll_12 ?_
          refine r_iast hR (by first | decide | assumption | (simp only [gcnt_4, gcnt_1, gcnt_2, gcnt_3, gcnt_12, gcnt_13, gcnt_16]; omega)) (fun _ => rfl) rfl (by omega) (by decide) dX8_copyAll_13 ?_
          refine r_iinc2 hR (nI 1) (by decide) (fun _ h => by first | (cases h; rfl) | exact absurd h (by simp)) dX8_copyAll_14 ?_
          try rw [nI_add]
          refine r_goto hR 2 dX8_copyAll_17 (by decide) ?_
          rw [cpR_grow M hab]
          exact ih (i + 1) (by omega)
  refine r_iconst hR (nI 0) (by decide) dX8_copyAll_0 ?_
  refine r_istore2 hR (fun _ h => by first | (cases h; rfl) | exact absurd h (by simp)) dX8_copyAll_1 ?_
  refine r_mem (cpR_z M a b).symm ?_
  exact L 43 0 rfl

set_option maxHeartbeats 4000000 in
set_option maxRecDepth 100000 in
theorem t_X8_becomes {G : gG} {M : gM} {k : Nat} {v : Int32} (hk : k < 43) : Cf G mX8_becomes 0 [.ref (ad G 15 0), .int (nI k), .int v] M (some (.int (M.1 16 0 k))) (seti M 16 0 k v) := by
  refine Ct.of (by decide +kernel) (k := 1) (ls0 := [some (.ref (ad G 15 0)), some (.int (nI k)), some (.int v), none]) rfl rfl (fun _ _ => trivial) ?_
  intro P hR
  refine r_aload0 hR dX8_becomes_0 ?_
  refine r_get hR (by first | decide | assumption | (simp only [gcnt_4, gcnt_1, gcnt_2, gcnt_3, gcnt_12, gcnt_13, gcnt_16]; omega)) fl_X8_9 rfl rfl dX8_becomes_1 ?_
  refine r_iload1 hR dX8_becomes_4 ?_
  refine r_iald hR (by first | decide | assumption | (simp only [gcnt_4, gcnt_1, gcnt_2, gcnt_3, gcnt_12, gcnt_13, gcnt_16]; omega)) rfl rfl (by omega) (by decide) dX8_becomes_5 ?_
  refine r_istore3 hR (fun _ h => by first | (cases h; rfl) | exact absurd h (by simp)) dX8_becomes_6 ?_
  refine r_aload0 hR dX8_becomes_7 ?_
  refine r_get hR (by first | decide | assumption | (simp only [gcnt_4, gcnt_1, gcnt_2, gcnt_3, gcnt_12, gcnt_13, gcnt_16]; omega)) fl_X8_9 rfl rfl dX8_becomes_8 ?_
  refine r_iload1 hR dX8_becomes_11 ?_
  refine r_iload2 hR dX8_becomes_12 ?_
  refine r_iast hR (by first | decide | assumption | (simp only [gcnt_4, gcnt_1, gcnt_2, gcnt_3, gcnt_12, gcnt_13, gcnt_16]; omega)) (fun _ => rfl) rfl (by omega) (by decide) dX8_becomes_13 ?_
  refine r_iload3 hR dX8_becomes_14 ?_
  refine r_iret hR dX8_becomes_15 ?_
  exact ⟨rfl, rfl⟩

set_option maxHeartbeats 4000000 in
set_option maxRecDepth 100000 in
theorem t_X8_isThing {G : gG} {M : gM} {S : Nat → Nat} (h : rowP M 0 S) {x : Int32} (h3 : S 3 ≤ 8) : Cf G mX8_isThing 1 [.ref (ad G 15 0), .int x] M (some (.int (bI (0 ≤ x.toInt ∧ x.toInt < S 3)))) M := by
  refine Ct.of (by decide +kernel) (k := 0) (ls0 := [some (.ref (ad G 15 0)), some (.int x)]) rfl rfl (fun _ _ => trivial) ?_
  intro P hR
  refine r_iload1 hR dX8_isThing_0 ?_
  refine r_i2l hR dX8_isThing_1 ?_
  refine r_iconst hR (nI 0) (by decide) dX8_isThing_2 ?_
  refine r_aload0 hR dX8_isThing_3 ?_
  refine r_get hR (by first | decide | assumption | (simp only [gcnt_4, gcnt_1, gcnt_2, gcnt_3, gcnt_12, gcnt_13, gcnt_16]; omega)) fl_X8_9 rfl rfl dX8_isThing_4 ?_
  refine r_iconst hR (nI 3) (by decide) dX8_isThing_7 ?_
  refine r_iald hR (by first | decide | assumption | (simp only [gcnt_4, gcnt_1, gcnt_2, gcnt_3, gcnt_12, gcnt_13, gcnt_16]; omega)) rfl rfl (by omega) (by decide) dX8_isThing_8 ?_
  rw [h 3 (by omega)]
  refine r_iconst hR (nI 1) (by decide) dX8_isThing_9 ?_
  refine r_isub hR dX8_isThing_10 ?_
  refine r_cs3v hR ks_X8_47 (by decide) (t_X8_in) (Nat.le_of_ble_eq_true rfl) dX8_isThing_11 ?_
  refine r_zret hR dX8_isThing_14 bI_n ?_
  refine ⟨congrArg (fun z => some (Value.int z)) (bI_c ?_), rfl⟩
  rw [i64_toInt, cv_0, pk_sub_toInt (by omega) (by decide)]
  omega

set_option maxHeartbeats 4000000 in
set_option maxRecDepth 100000 in
theorem t_X8_isCell {G : gG} {M : gM} {x : Int32} : Cf G mX8_isCell 1 [.int x] M (some (.int (bI (0 ≤ x.toInt ∧ x.toInt ≤ 35)))) M := by
  refine Ct.of (by decide +kernel) (k := 0) (ls0 := [some (.int x)]) rfl rfl (fun _ _ => trivial) ?_
  intro P hR
  refine r_iload0 hR dX8_isCell_0 ?_
  refine r_i2l hR dX8_isCell_1 ?_
  refine r_iconst hR (nI 0) (by decide) dX8_isCell_2 ?_
  refine r_bipush hR (nI 35) (by decide) dX8_isCell_3 ?_
  refine r_cs3v hR ks_X8_47 (by decide) (t_X8_in) (Nat.le_of_ble_eq_true rfl) dX8_isCell_5 ?_
  refine r_zret hR dX8_isCell_8 bI_n ?_
  refine ⟨congrArg (fun z => some (Value.int z)) (bI_c ?_), rfl⟩
  rw [i64_toInt, cv_0, show (nI 35).toInt = 35 from by decide]

set_option maxHeartbeats 4000000 in
set_option maxRecDepth 100000 in
theorem t_X8_isWind {G : gG} {M : gM} {x : Int32} : Cf G mX8_isWind 1 [.int x] M (some (.int (bI (0 ≤ x.toInt ∧ x.toInt ≤ 7)))) M := by
  refine Ct.of (by decide +kernel) (k := 0) (ls0 := [some (.int x)]) rfl rfl (fun _ _ => trivial) ?_
  intro P hR
  refine r_iload0 hR dX8_isWind_0 ?_
  refine r_i2l hR dX8_isWind_1 ?_
  refine r_iconst hR (nI 0) (by decide) dX8_isWind_2 ?_
  refine r_bipush hR (nI 7) (by decide) dX8_isWind_3 ?_
  refine r_cs3v hR ks_X8_47 (by decide) (t_X8_in) (Nat.le_of_ble_eq_true rfl) dX8_isWind_5 ?_
  refine r_zret hR dX8_isWind_8 bI_n ?_
  refine ⟨congrArg (fun z => some (Value.int z)) (bI_c ?_), rfl⟩
  rw [i64_toInt, cv_0, show (nI 7).toInt = 7 from by decide]

set_option maxHeartbeats 4000000 in
set_option maxRecDepth 100000 in
theorem t_X8_it {G : gG} {M : gM} {S : Nat → Nat} (h : rowP M 0 S) {t w : Nat} (ht : t < S 3) (hw : w < 4) (h3 : S 3 ≤ 8) : Cf G mX8_it 0 [.ref (ad G 15 0), .int (nI t), .int (nI w)] M (some (.int (nI (thg S t w)))) M := by
  refine Ct.of (by decide +kernel) (k := 0) (ls0 := [some (.ref (ad G 15 0)), some (.int (nI t)), some (.int (nI w))]) rfl rfl (fun _ _ => trivial) ?_
  intro P hR
  refine r_aload0 hR dX8_it_0 ?_
  refine r_get hR (by first | decide | assumption | (simp only [gcnt_4, gcnt_1, gcnt_2, gcnt_3, gcnt_12, gcnt_13, gcnt_16]; omega)) fl_X8_9 rfl rfl dX8_it_1 ?_
  refine r_bipush hR (nI 11) (by decide) dX8_it_4 ?_
  refine r_iconst hR (nI 4) (by decide) dX8_it_6 ?_
  refine r_iload1 hR dX8_it_7 ?_
  refine r_imul hR dX8_it_8 ?_
  try rw [pk_mul]
  refine r_iadd hR dX8_it_9 ?_
  try rw [nI_add]
  refine r_iload2 hR dX8_it_10 ?_
  refine r_iadd hR dX8_it_11 ?_
  try rw [nI_add]
  refine r_iald hR (by first | decide | assumption | (simp only [gcnt_4, gcnt_1, gcnt_2, gcnt_3, gcnt_12, gcnt_13, gcnt_16]; omega)) rfl rfl (by omega) (by decide) dX8_it_12 ?_
  rw [h _ (by omega)]
  refine r_iret hR dX8_it_13 ?_
  exact ⟨rfl, rfl⟩

set_option maxHeartbeats 4000000 in
set_option maxRecDepth 100000 in
theorem t_X8_put {G : gG} {M : gM} {t w : Nat} {v : Int32} (ht : t < 8) (hw : w < 4) : Cf G mX8_put 0 [.ref (ad G 15 0), .int (nI t), .int (nI w), .int v] M none (seti M 16 0 (11 + 4 * t + w) v) := by
  refine Ct.of (by decide +kernel) (k := 0) (ls0 := [some (.ref (ad G 15 0)), some (.int (nI t)), some (.int (nI w)), some (.int v)]) rfl rfl (fun _ _ => trivial) ?_
  intro P hR
  refine r_aload0 hR dX8_put_0 ?_
  refine r_get hR (by first | decide | assumption | (simp only [gcnt_4, gcnt_1, gcnt_2, gcnt_3, gcnt_12, gcnt_13, gcnt_16]; omega)) fl_X8_9 rfl rfl dX8_put_1 ?_
  refine r_bipush hR (nI 11) (by decide) dX8_put_4 ?_
  refine r_iconst hR (nI 4) (by decide) dX8_put_6 ?_
  refine r_iload1 hR dX8_put_7 ?_
  refine r_imul hR dX8_put_8 ?_
  try rw [pk_mul]
  refine r_iadd hR dX8_put_9 ?_
  try rw [nI_add]
  refine r_iload2 hR dX8_put_10 ?_
  refine r_iadd hR dX8_put_11 ?_
  try rw [nI_add]
  refine r_iload3 hR dX8_put_12 ?_
  refine r_iast hR (by first | decide | assumption | (simp only [gcnt_4, gcnt_1, gcnt_2, gcnt_3, gcnt_12, gcnt_13, gcnt_16]; omega)) (fun _ => rfl) rfl (by omega) (by decide) dX8_put_13 ?_
  refine r_vret hR dX8_put_14 ?_
  exact ⟨rfl, rfl⟩

set_option maxHeartbeats 4000000 in
set_option maxRecDepth 100000 in
theorem t_X8_blowing {G : gG} {M : gM} {S : Nat → Nat} (h : rowP M 0 S) (hwf : wfS S) {day : Nat} (hd : day < 2 ^ 31) : Cf G mX8_blowing 0 [.ref (ad G 15 0), .int (nI day)] M (some (.int (nI (blow S day)))) M := by
  obtain ⟨w0, w1, w2, w3, wr, wt⟩ := id hwf
  refine Ct.of (by decide +kernel) (k := 2) (ls0 := [some (.ref (ad G 15 0)), some (.int (nI day)), none, none]) rfl rfl (fun _ _ => trivial) ?_
  intro P hR
  have hmod := Nat.mod_lt day (show 0 < 7 by decide)
  obtain ⟨due, hdu⟩ : ∃ due, S (4 + day % 7) = due := ⟨_, rfl⟩
  have hdl : due ≤ 8 := by rw [← hdu]; exact wr _ hmod
  by_cases hd8 : due = 8
  · skip
    refine r_aload0 hR dX8_blowing_0 ?_
    refine r_get hR (by first | decide | assumption | (simp only [gcnt_4, gcnt_1, gcnt_2, gcnt_3, gcnt_12, gcnt_13, gcnt_16]; omega)) fl_X8_9 rfl rfl dX8_blowing_1 ?_
    refine r_iconst hR (nI 4) (by decide) dX8_blowing_4 ?_
    refine r_iload1 hR dX8_blowing_5 ?_
    refine r_bipush hR (nI 7) (by decide) dX8_blowing_6 ?_
    refine r_iremN hR hd (by decide) (by decide) dX8_blowing_8 ?_
    refine r_iadd hR dX8_blowing_9 ?_
    try rw [nI_add]
    refine r_iald hR (by first | decide | assumption | (simp only [gcnt_4, gcnt_1, gcnt_2, gcnt_3, gcnt_12, gcnt_13, gcnt_16]; omega)) rfl rfl (by omega) (by decide) dX8_blowing_10 ?_
    rw [h _ (by omega), hdu]
    refine r_istore2 hR (fun _ h => by first | (cases h; rfl) | exact absurd h (by simp)) dX8_blowing_11 ?_
    refine r_iconst hR (nI 0) (by decide) dX8_blowing_12 ?_
    refine r_istore3 hR (fun _ h => by first | (cases h; rfl) | exact absurd h (by simp)) dX8_blowing_13 ?_
    refine r_iload3 hR dX8_blowing_14 ?_
    refine r_bipush hR (nI 8) (by decide) dX8_blowing_15 ?_
    refine r_icmp_ge hR 54 dX8_blowing_17 (by decide) (fun c17 => ?_) (fun c17 => ?_)
    · try simp (disch := omega) only [nI_ltI, nI_leI, nI_eq, bI_0, Decidable.not_not, lc_lt, lc_gt, lc_ge, lc_le, lc_eq, i64_toInt] at c17
      try simp (disch := omega) only [cv_lt, cv_le, cv_eq, nI_toInt, cv_0] at c17
      first
      | omega
      | refine r_bipush hR (nI 8) (by decide) dX8_blowing_54 ?_
        refine r_iret hR dX8_blowing_56 ?_
        refine ⟨congrArg (fun z => some (Value.int (nI z))) ?_, rfl⟩
        unfold blow
        rw [hdu, if_pos hd8]
    · try simp (disch := omega) only [nI_ltI, nI_leI, nI_eq, bI_0, Decidable.not_not, lc_lt, lc_gt, lc_ge, lc_le, lc_eq, i64_toInt] at c17
      try simp (disch := omega) only [cv_lt, cv_le, cv_eq, nI_toInt, cv_0] at c17
      first
      | omega
      | refine r_iload2 hR dX8_blowing_20 ?_
        refine r_bipush hR (nI 8) (by decide) dX8_blowing_21 ?_
        refine r_icmp_ge hR 54 dX8_blowing_23 (by decide) (fun c23 => ?_) (fun c23 => ?_)
        · try simp (disch := omega) only [nI_ltI, nI_leI, nI_eq, bI_0, Decidable.not_not, lc_lt, lc_gt, lc_ge, lc_le, lc_eq, i64_toInt] at c23
          try simp (disch := omega) only [cv_lt, cv_le, cv_eq, nI_toInt, cv_0] at c23
          first
          | omega
          | refine r_bipush hR (nI 8) (by decide) dX8_blowing_54 ?_
            refine r_iret hR dX8_blowing_56 ?_
            refine ⟨congrArg (fun z => some (Value.int (nI z))) ?_, rfl⟩
            unfold blow
            rw [hdu, if_pos hd8]
        · try simp (disch := omega) only [nI_ltI, nI_leI, nI_eq, bI_0, Decidable.not_not, lc_lt, lc_gt, lc_ge, lc_le, lc_eq, i64_toInt] at c23
          try simp (disch := omega) only [cv_lt, cv_le, cv_eq, nI_toInt, cv_0] at c23
          first
          | omega
          | omega
  have hble : bw (S 2) 8 due = blow S day := by unfold blow; rw [hdu, if_neg hd8]
  have L : ∀ (j i : Nat) (w : Nat), i + j = 8 → w < 8 → bw (S 2) (8 - i) w = blow S day → P 14 [some (.ref (ad G 15 0)), some (.int (nI day)), some (.int (nI w)), some (.int (nI i))] [] M := by
    intro j
    induction j with
    | zero =>
      intro i w hij hw8 hb
      refine r_iload3 hR dX8_blowing_14 ?_
      refine r_bipush hR (nI 8) (by decide) dX8_blowing_15 ?_
      refine r_icmp_ge hR 54 dX8_blowing_17 (by decide) (fun c17 => ?_) (fun c17 => ?_)
      · try simp (disch := omega) only [nI_ltI, nI_leI, nI_eq, bI_0, Decidable.not_not, lc_lt, lc_gt, lc_ge, lc_le, lc_eq, i64_toInt] at c17
        try simp (disch := omega) only [cv_lt, cv_le, cv_eq, nI_toInt, cv_0] at c17
        first
        | omega
        | refine r_bipush hR (nI 8) (by decide) dX8_blowing_54 ?_
          refine r_iret hR dX8_blowing_56 ?_
          first
          | (obtain rfl : i = 8 := by omega
             exact ⟨congrArg (fun z => some (Value.int (nI z))) hb, rfl⟩)
          | omega
      · try simp (disch := omega) only [nI_ltI, nI_leI, nI_eq, bI_0, Decidable.not_not, lc_lt, lc_gt, lc_ge, lc_le, lc_eq, i64_toInt] at c17
        try simp (disch := omega) only [cv_lt, cv_le, cv_eq, nI_toInt, cv_0] at c17
        first
        | omega
        | refine r_iload2 hR dX8_blowing_20 ?_
          refine r_bipush hR (nI 8) (by decide) dX8_blowing_21 ?_
          refine r_icmp_ge hR 54 dX8_blowing_23 (by decide) (fun c23 => ?_) (fun c23 => ?_)
          · try simp (disch := omega) only [nI_ltI, nI_leI, nI_eq, bI_0, Decidable.not_not, lc_lt, lc_gt, lc_ge, lc_le, lc_eq, i64_toInt] at c23
            try simp (disch := omega) only [cv_lt, cv_le, cv_eq, nI_toInt, cv_0] at c23
            first
            | omega
            | refine r_bipush hR (nI 8) (by decide) dX8_blowing_54 ?_
              refine r_iret hR dX8_blowing_56 ?_
              first
              | (obtain rfl : i = 8 := by omega
                 exact ⟨congrArg (fun z => some (Value.int (nI z))) hb, rfl⟩)
              | omega
          · try simp (disch := omega) only [nI_ltI, nI_leI, nI_eq, bI_0, Decidable.not_not, lc_lt, lc_gt, lc_ge, lc_le, lc_eq, i64_toInt] at c23
            try simp (disch := omega) only [cv_lt, cv_le, cv_eq, nI_toInt, cv_0] at c23
            first
            | omega
            | refine r_aload0 hR dX8_blowing_26 ?_
              refine r_get hR (by first | decide | assumption | (simp only [gcnt_4, gcnt_1, gcnt_2, gcnt_3, gcnt_12, gcnt_13, gcnt_16]; omega)) fl_X8_9 rfl rfl dX8_blowing_27 ?_
              refine r_iconst hR (nI 2) (by decide) dX8_blowing_30 ?_
              refine r_iald hR (by first | decide | assumption | (simp only [gcnt_4, gcnt_1, gcnt_2, gcnt_3, gcnt_12, gcnt_13, gcnt_16]; omega)) rfl rfl (by omega) (by decide) dX8_blowing_31 ?_
              rw [h 2 (by omega)]
              refine r_iload2 hR dX8_blowing_32 ?_
              refine r_ishr hR dX8_blowing_33 ?_
              refine r_iconst hR (nI 1) (by decide) dX8_blowing_34 ?_
              refine r_iand hR dX8_blowing_35 ?_
              refine r_nm _ (sick_t (S 2) w2 w (by omega)).1 ?_
              have hbb : (if (S 2).testBit w = true then 1 else 0) < 2 := by split <;> omega
              refine r_if_ne hR 41 dX8_blowing_36 (by decide) (fun c36 => ?_) (fun c36 => ?_)
              · try simp (disch := omega) only [nI_ltI, nI_leI, nI_eq, bI_0, Decidable.not_not, lc_lt, lc_gt, lc_ge, lc_le, lc_eq, i64_toInt] at c36
                try simp (disch := omega) only [cv_lt, cv_le, cv_eq, nI_toInt, cv_0] at c36
                first
                | omega
                | have htb : (S 2).testBit w = true := by
                    by_cases q : (S 2).testBit w = true
                    · exact q
                    · rw [if_neg q] at c36; omega
                  rw [show 8 - i = (8 - (i + 1)) + 1 by omega, bw, if_pos htb] at hb
                  refine r_iload2 hR dX8_blowing_41 ?_
                  refine r_iconst hR (nI 1) (by decide) dX8_blowing_42 ?_
                  refine r_iadd hR dX8_blowing_43 ?_
                  try rw [nI_add]
                  refine r_bipush hR (nI 8) (by decide) dX8_blowing_44 ?_
                  refine r_iremN hR (by omega) (by omega) (by omega) dX8_blowing_46 ?_
                  refine r_istore2 hR (fun _ h => by first | (cases h; rfl) | exact absurd h (by simp)) dX8_blowing_47 ?_
                  refine r_iinc3 hR (nI 1) (by decide) (fun _ h => by first | (cases h; rfl) | exact absurd h (by simp)) dX8_blowing_48 ?_
                  try rw [nI_add]
                  refine r_goto hR 14 dX8_blowing_51 (by decide) ?_
                  omega
              · try simp (disch := omega) only [nI_ltI, nI_leI, nI_eq, bI_0, Decidable.not_not, lc_lt, lc_gt, lc_ge, lc_le, lc_eq, i64_toInt] at c36
                try simp (disch := omega) only [cv_lt, cv_le, cv_eq, nI_toInt, cv_0] at c36
                first
                | omega
                | have htb : ¬ (S 2).testBit w = true := by
                    intro q
                    rw [if_pos q] at c36
                    omega
                  refine r_iload2 hR dX8_blowing_39 ?_
                  refine r_iret hR dX8_blowing_40 ?_
                  refine ⟨congrArg (fun z => some (Value.int (nI z))) ?_, rfl⟩
                  rw [show 8 - i = (8 - (i + 1)) + 1 by omega, bw, if_neg htb] at hb
                  exact hb
    | succ j ih =>
      intro i w hij hw8 hb
      refine r_iload3 hR dX8_blowing_14 ?_
      refine r_bipush hR (nI 8) (by decide) dX8_blowing_15 ?_
      refine r_icmp_ge hR 54 dX8_blowing_17 (by decide) (fun c17 => ?_) (fun c17 => ?_)
      · try simp (disch := omega) only [nI_ltI, nI_leI, nI_eq, bI_0, Decidable.not_not, lc_lt, lc_gt, lc_ge, lc_le, lc_eq, i64_toInt] at c17
        try simp (disch := omega) only [cv_lt, cv_le, cv_eq, nI_toInt, cv_0] at c17
        first
        | omega
        | refine r_bipush hR (nI 8) (by decide) dX8_blowing_54 ?_
          refine r_iret hR dX8_blowing_56 ?_
          first
          | (obtain rfl : i = 8 := by omega
             exact ⟨congrArg (fun z => some (Value.int (nI z))) hb, rfl⟩)
          | omega
      · try simp (disch := omega) only [nI_ltI, nI_leI, nI_eq, bI_0, Decidable.not_not, lc_lt, lc_gt, lc_ge, lc_le, lc_eq, i64_toInt] at c17
        try simp (disch := omega) only [cv_lt, cv_le, cv_eq, nI_toInt, cv_0] at c17
        first
        | omega
        | refine r_iload2 hR dX8_blowing_20 ?_
          refine r_bipush hR (nI 8) (by decide) dX8_blowing_21 ?_
          refine r_icmp_ge hR 54 dX8_blowing_23 (by decide) (fun c23 => ?_) (fun c23 => ?_)
          · try simp (disch := omega) only [nI_ltI, nI_leI, nI_eq, bI_0, Decidable.not_not, lc_lt, lc_gt, lc_ge, lc_le, lc_eq, i64_toInt] at c23
            try simp (disch := omega) only [cv_lt, cv_le, cv_eq, nI_toInt, cv_0] at c23
            first
            | omega
            | refine r_bipush hR (nI 8) (by decide) dX8_blowing_54 ?_
              refine r_iret hR dX8_blowing_56 ?_
              first
              | (obtain rfl : i = 8 := by omega
                 exact ⟨congrArg (fun z => some (Value.int (nI z))) hb, rfl⟩)
              | omega
          · try simp (disch := omega) only [nI_ltI, nI_leI, nI_eq, bI_0, Decidable.not_not, lc_lt, lc_gt, lc_ge, lc_le, lc_eq, i64_toInt] at c23
            try simp (disch := omega) only [cv_lt, cv_le, cv_eq, nI_toInt, cv_0] at c23
            first
            | omega
            | refine r_aload0 hR dX8_blowing_26 ?_
              refine r_get hR (by first | decide | assumption | (simp only [gcnt_4, gcnt_1, gcnt_2, gcnt_3, gcnt_12, gcnt_13, gcnt_16]; omega)) fl_X8_9 rfl rfl dX8_blowing_27 ?_
              refine r_iconst hR (nI 2) (by decide) dX8_blowing_30 ?_
              refine r_iald hR (by first | decide | assumption | (simp only [gcnt_4, gcnt_1, gcnt_2, gcnt_3, gcnt_12, gcnt_13, gcnt_16]; omega)) rfl rfl (by omega) (by decide) dX8_blowing_31 ?_
              rw [h 2 (by omega)]
              refine r_iload2 hR dX8_blowing_32 ?_
              refine r_ishr hR dX8_blowing_33 ?_
              refine r_iconst hR (nI 1) (by decide) dX8_blowing_34 ?_
              refine r_iand hR dX8_blowing_35 ?_
              refine r_nm _ (sick_t (S 2) w2 w (by omega)).1 ?_
              have hbb : (if (S 2).testBit w = true then 1 else 0) < 2 := by split <;> omega
              refine r_if_ne hR 41 dX8_blowing_36 (by decide) (fun c36 => ?_) (fun c36 => ?_)
              · try simp (disch := omega) only [nI_ltI, nI_leI, nI_eq, bI_0, Decidable.not_not, lc_lt, lc_gt, lc_ge, lc_le, lc_eq, i64_toInt] at c36
                try simp (disch := omega) only [cv_lt, cv_le, cv_eq, nI_toInt, cv_0] at c36
                first
                | omega
                | have htb : (S 2).testBit w = true := by
                    by_cases q : (S 2).testBit w = true
                    · exact q
                    · rw [if_neg q] at c36; omega
                  rw [show 8 - i = (8 - (i + 1)) + 1 by omega, bw, if_pos htb] at hb
                  refine r_iload2 hR dX8_blowing_41 ?_
                  refine r_iconst hR (nI 1) (by decide) dX8_blowing_42 ?_
                  refine r_iadd hR dX8_blowing_43 ?_
                  try rw [nI_add]
                  refine r_bipush hR (nI 8) (by decide) dX8_blowing_44 ?_
                  refine r_iremN hR (by omega) (by omega) (by omega) dX8_blowing_46 ?_
                  refine r_istore2 hR (fun _ h => by first | (cases h; rfl) | exact absurd h (by simp)) dX8_blowing_47 ?_
                  refine r_iinc3 hR (nI 1) (by decide) (fun _ h => by first | (cases h; rfl) | exact absurd h (by simp)) dX8_blowing_48 ?_
                  try rw [nI_add]
                  refine r_goto hR 14 dX8_blowing_51 (by decide) ?_
                  exact ih (i + 1) _ (by omega) (Nat.mod_lt _ (by decide)) hb
              · try simp (disch := omega) only [nI_ltI, nI_leI, nI_eq, bI_0, Decidable.not_not, lc_lt, lc_gt, lc_ge, lc_le, lc_eq, i64_toInt] at c36
                try simp (disch := omega) only [cv_lt, cv_le, cv_eq, nI_toInt, cv_0] at c36
                first
                | omega
                | have htb : ¬ (S 2).testBit w = true := by
                    intro q
                    rw [if_pos q] at c36
                    omega
                  refine r_iload2 hR dX8_blowing_39 ?_
                  refine r_iret hR dX8_blowing_40 ?_
                  refine ⟨congrArg (fun z => some (Value.int (nI z))) ?_, rfl⟩
                  rw [show 8 - i = (8 - (i + 1)) + 1 by omega, bw, if_neg htb] at hb
                  exact hb
  refine r_aload0 hR dX8_blowing_0 ?_
  refine r_get hR (by first | decide | assumption | (simp only [gcnt_4, gcnt_1, gcnt_2, gcnt_3, gcnt_12, gcnt_13, gcnt_16]; omega)) fl_X8_9 rfl rfl dX8_blowing_1 ?_
  refine r_iconst hR (nI 4) (by decide) dX8_blowing_4 ?_
  refine r_iload1 hR dX8_blowing_5 ?_
  refine r_bipush hR (nI 7) (by decide) dX8_blowing_6 ?_
  refine r_iremN hR hd (by decide) (by decide) dX8_blowing_8 ?_
  refine r_iadd hR dX8_blowing_9 ?_
  try rw [nI_add]
  refine r_iald hR (by first | decide | assumption | (simp only [gcnt_4, gcnt_1, gcnt_2, gcnt_3, gcnt_12, gcnt_13, gcnt_16]; omega)) rfl rfl (by omega) (by decide) dX8_blowing_10 ?_
  rw [h _ (by omega), hdu]
  refine r_istore2 hR (fun _ h => by first | (cases h; rfl) | exact absurd h (by simp)) dX8_blowing_11 ?_
  refine r_iconst hR (nI 0) (by decide) dX8_blowing_12 ?_
  refine r_istore3 hR (fun _ h => by first | (cases h; rfl) | exact absurd h (by simp)) dX8_blowing_13 ?_
  exact L 8 0 due rfl (by omega) hble

set_option maxHeartbeats 4000000 in
set_option maxRecDepth 100000 in
theorem t_X8_blownTo {G : gG} {M : gM} {c w : Nat} (hc : c < 36) (hw : w < 8) : Cf G mX8_blownTo 1 [.int (nI c), .int (nI w)] M (some (.int (if bto c w < 36 then nI (bto c w) else -1))) M := by
  refine Ct.of (by decide +kernel) (k := 4) (ls0 := [some (.int (nI c)), some (.int (nI w)), none, none, none, none]) rfl rfl (fun _ _ => trivial) ?_
  intro P hR
  have J55 : P 55 [some (.int (nI c)), some (.int (nI w)), some (.int ((sFl 0).getD w 0)), none, none, none] [.int ((sFl 1).getD w 0)] M := by
    refine r_istore3 hR (fun _ h => by first | (cases h; rfl) | exact absurd h (by simp)) dX8_blownTo_55 ?_
    refine r_iload0 hR dX8_blownTo_56 ?_
    refine r_bipush hR (nI 6) (by decide) dX8_blownTo_57 ?_
    refine r_idivN hR (by omega) (by omega) (by omega) dX8_blownTo_59 ?_
    refine r_iload2 hR dX8_blownTo_60 ?_
    refine r_iadd hR dX8_blownTo_61 ?_
    try rw [nI_add]
    refine r_istore4 hR (fun _ h => by first | (cases h; rfl) | exact absurd h (by simp)) dX8_blownTo_62 ?_
    refine r_iload0 hR dX8_blownTo_64 ?_
    refine r_bipush hR (nI 6) (by decide) dX8_blownTo_65 ?_
    refine r_iremN hR (by omega) (by omega) (by omega) dX8_blownTo_67 ?_
    refine r_iload3 hR dX8_blownTo_68 ?_
    refine r_iadd hR dX8_blownTo_69 ?_
    try rw [nI_add]
    refine r_istore5 hR (fun _ h => by first | (cases h; rfl) | exact absurd h (by simp)) dX8_blownTo_70 ?_
    refine r_iload4 hR dX8_blownTo_72 ?_
    refine r_i2l hR dX8_blownTo_74 ?_
    refine r_iconst hR (nI 0) (by decide) dX8_blownTo_75 ?_
    refine r_iconst hR (nI 5) (by decide) dX8_blownTo_76 ?_
    refine r_cs3v hR ks_X8_47 (by decide) (t_X8_in) (Nat.le_of_ble_eq_true rfl) dX8_blownTo_77 ?_
    refine r_if_eq hR 105 dX8_blownTo_80 (by decide) (fun c80 => ?_) (fun c80 => ?_)
    · try simp (disch := omega) only [nI_ltI, nI_leI, nI_eq, bI_0, Decidable.not_not, lc_lt, lc_gt, lc_ge, lc_le, lc_eq, i64_toInt] at c80
      try simp (disch := omega) only [cv_lt, cv_le, cv_eq, nI_toInt, cv_0] at c80
      first
      | omega
      | refine r_iconst hR (-1) (by decide) dX8_blownTo_105 ?_
        refine r_iret hR dX8_blownTo_106 ?_
        refine ⟨congrArg (fun z => some (Value.int z)) ?_, rfl⟩
        have z := bto_t c hc w hw
        have z5 : (nI 5).toInt = 5 := by decide
        simp only [z5, cv_0] at *
        first
        | exact (if_neg (fun q => by have := z.2.1.mpr q; omega)).symm
        | (have q : bto c w < 36 := z.2.1.mp (by omega)
           rw [if_pos q]
           exact (z.2.2 q).2)
    · try simp (disch := omega) only [nI_ltI, nI_leI, nI_eq, bI_0, Decidable.not_not, lc_lt, lc_gt, lc_ge, lc_le, lc_eq, i64_toInt] at c80
      try simp (disch := omega) only [cv_lt, cv_le, cv_eq, nI_toInt, cv_0] at c80
      first
      | omega
      | refine r_iload5 hR dX8_blownTo_83 ?_
        refine r_i2l hR dX8_blownTo_85 ?_
        refine r_iconst hR (nI 0) (by decide) dX8_blownTo_86 ?_
        refine r_iconst hR (nI 5) (by decide) dX8_blownTo_87 ?_
        refine r_cs3v hR ks_X8_47 (by decide) (t_X8_in) (Nat.le_of_ble_eq_true rfl) dX8_blownTo_88 ?_
        refine r_if_eq hR 105 dX8_blownTo_91 (by decide) (fun c91 => ?_) (fun c91 => ?_)
        · try simp (disch := omega) only [nI_ltI, nI_leI, nI_eq, bI_0, Decidable.not_not, lc_lt, lc_gt, lc_ge, lc_le, lc_eq, i64_toInt] at c91
          try simp (disch := omega) only [cv_lt, cv_le, cv_eq, nI_toInt, cv_0] at c91
          first
          | omega
          | refine r_iconst hR (-1) (by decide) dX8_blownTo_105 ?_
            refine r_iret hR dX8_blownTo_106 ?_
            refine ⟨congrArg (fun z => some (Value.int z)) ?_, rfl⟩
            have z := bto_t c hc w hw
            have z5 : (nI 5).toInt = 5 := by decide
            simp only [z5, cv_0] at *
            first
            | exact (if_neg (fun q => by have := z.2.1.mpr q; omega)).symm
            | (have q : bto c w < 36 := z.2.1.mp (by omega)
               rw [if_pos q]
               exact (z.2.2 q).2)
        · try simp (disch := omega) only [nI_ltI, nI_leI, nI_eq, bI_0, Decidable.not_not, lc_lt, lc_gt, lc_ge, lc_le, lc_eq, i64_toInt] at c91
          try simp (disch := omega) only [cv_lt, cv_le, cv_eq, nI_toInt, cv_0] at c91
          first
          | omega
          | refine r_bipush hR (nI 6) (by decide) dX8_blownTo_94 ?_
            refine r_iload4 hR dX8_blownTo_96 ?_
            refine r_imul hR dX8_blownTo_98 ?_
            try rw [pk_mul]
            refine r_iload5 hR dX8_blownTo_99 ?_
            refine r_iadd hR dX8_blownTo_101 ?_
            try rw [nI_add]
            refine r_goto hR 106 dX8_blownTo_102 (by decide) ?_
            refine r_iret hR dX8_blownTo_106 ?_
            refine ⟨congrArg (fun z => some (Value.int z)) ?_, rfl⟩
            have z := bto_t c hc w hw
            have z5 : (nI 5).toInt = 5 := by decide
            simp only [z5, cv_0] at *
            first
            | exact (if_neg (fun q => by have := z.2.1.mpr q; omega)).symm
            | (have q : bto c w < 36 := z.2.1.mp (by omega)
               rw [if_pos q]
               exact (z.2.2 q).2)
  have J31 : P 31 [some (.int (nI c)), some (.int (nI w)), none, none, none, none] [.int ((sFl 0).getD w 0)] M := by
    refine r_istore2 hR (fun _ h => by first | (cases h; rfl) | exact absurd h (by simp)) dX8_blownTo_31 ?_
    refine r_iload1 hR dX8_blownTo_32 ?_
    refine r_if_le hR 45 dX8_blownTo_33 (by decide) (fun c33 => ?_) (fun c33 => ?_)
    · try simp (disch := omega) only [nI_ltI, nI_leI, nI_eq, bI_0, Decidable.not_not, lc_lt, lc_gt, lc_ge, lc_le, lc_eq, i64_toInt] at c33
      try simp (disch := omega) only [cv_lt, cv_le, cv_eq, nI_toInt, cv_0] at c33
      first
      | omega
      | refine r_iload1 hR dX8_blownTo_45 ?_
        refine r_iconst hR (nI 4) (by decide) dX8_blownTo_46 ?_
        refine r_icmp_le hR 54 dX8_blownTo_47 (by decide) (fun c47 => ?_) (fun c47 => ?_)
        · try simp (disch := omega) only [nI_ltI, nI_leI, nI_eq, bI_0, Decidable.not_not, lc_lt, lc_gt, lc_ge, lc_le, lc_eq, i64_toInt] at c47
          try simp (disch := omega) only [cv_lt, cv_le, cv_eq, nI_toInt, cv_0] at c47
          first
          | omega
          | refine r_iconst hR (nI 0) (by decide) dX8_blownTo_54 ?_
            refine r_nm ((sFl 1).getD w 0) (by rcases (show w = 0 ∨ w = 1 ∨ w = 2 ∨ w = 3 ∨ w = 4 ∨ w = 5 ∨ w = 6 ∨ w = 7 by omega) with rfl | rfl | rfl | rfl | rfl | rfl | rfl | rfl <;> first | rfl | omega) ?_
            exact J55
        · try simp (disch := omega) only [nI_ltI, nI_leI, nI_eq, bI_0, Decidable.not_not, lc_lt, lc_gt, lc_ge, lc_le, lc_eq, i64_toInt] at c47
          try simp (disch := omega) only [cv_lt, cv_le, cv_eq, nI_toInt, cv_0] at c47
          first
          | omega
          | refine r_iconst hR (-1) (by decide) dX8_blownTo_50 ?_
            refine r_goto hR 55 dX8_blownTo_51 (by decide) ?_
            refine r_nm ((sFl 1).getD w 0) (by rcases (show w = 0 ∨ w = 1 ∨ w = 2 ∨ w = 3 ∨ w = 4 ∨ w = 5 ∨ w = 6 ∨ w = 7 by omega) with rfl | rfl | rfl | rfl | rfl | rfl | rfl | rfl <;> first | rfl | omega) ?_
            exact J55
    · try simp (disch := omega) only [nI_ltI, nI_leI, nI_eq, bI_0, Decidable.not_not, lc_lt, lc_gt, lc_ge, lc_le, lc_eq, i64_toInt] at c33
      try simp (disch := omega) only [cv_lt, cv_le, cv_eq, nI_toInt, cv_0] at c33
      first
      | omega
      | refine r_iload1 hR dX8_blownTo_36 ?_
        refine r_iconst hR (nI 4) (by decide) dX8_blownTo_37 ?_
        refine r_icmp_ge hR 45 dX8_blownTo_38 (by decide) (fun c38 => ?_) (fun c38 => ?_)
        · try simp (disch := omega) only [nI_ltI, nI_leI, nI_eq, bI_0, Decidable.not_not, lc_lt, lc_gt, lc_ge, lc_le, lc_eq, i64_toInt] at c38
          try simp (disch := omega) only [cv_lt, cv_le, cv_eq, nI_toInt, cv_0] at c38
          first
          | omega
          | refine r_iload1 hR dX8_blownTo_45 ?_
            refine r_iconst hR (nI 4) (by decide) dX8_blownTo_46 ?_
            refine r_icmp_le hR 54 dX8_blownTo_47 (by decide) (fun c47 => ?_) (fun c47 => ?_)
            · try simp (disch := omega) only [nI_ltI, nI_leI, nI_eq, bI_0, Decidable.not_not, lc_lt, lc_gt, lc_ge, lc_le, lc_eq, i64_toInt] at c47
              try simp (disch := omega) only [cv_lt, cv_le, cv_eq, nI_toInt, cv_0] at c47
              first
              | omega
              | refine r_iconst hR (nI 0) (by decide) dX8_blownTo_54 ?_
                refine r_nm ((sFl 1).getD w 0) (by rcases (show w = 0 ∨ w = 1 ∨ w = 2 ∨ w = 3 ∨ w = 4 ∨ w = 5 ∨ w = 6 ∨ w = 7 by omega) with rfl | rfl | rfl | rfl | rfl | rfl | rfl | rfl <;> first | rfl | omega) ?_
                exact J55
            · try simp (disch := omega) only [nI_ltI, nI_leI, nI_eq, bI_0, Decidable.not_not, lc_lt, lc_gt, lc_ge, lc_le, lc_eq, i64_toInt] at c47
              try simp (disch := omega) only [cv_lt, cv_le, cv_eq, nI_toInt, cv_0] at c47
              first
              | omega
              | refine r_iconst hR (-1) (by decide) dX8_blownTo_50 ?_
                refine r_goto hR 55 dX8_blownTo_51 (by decide) ?_
                refine r_nm ((sFl 1).getD w 0) (by rcases (show w = 0 ∨ w = 1 ∨ w = 2 ∨ w = 3 ∨ w = 4 ∨ w = 5 ∨ w = 6 ∨ w = 7 by omega) with rfl | rfl | rfl | rfl | rfl | rfl | rfl | rfl <;> first | rfl | omega) ?_
                exact J55
        · try simp (disch := omega) only [nI_ltI, nI_leI, nI_eq, bI_0, Decidable.not_not, lc_lt, lc_gt, lc_ge, lc_le, lc_eq, i64_toInt] at c38
          try simp (disch := omega) only [cv_lt, cv_le, cv_eq, nI_toInt, cv_0] at c38
          first
          | omega
          | refine r_iconst hR (nI 1) (by decide) dX8_blownTo_41 ?_
            refine r_goto hR 55 dX8_blownTo_42 (by decide) ?_
            refine r_nm ((sFl 1).getD w 0) (by rcases (show w = 0 ∨ w = 1 ∨ w = 2 ∨ w = 3 ∨ w = 4 ∨ w = 5 ∨ w = 6 ∨ w = 7 by omega) with rfl | rfl | rfl | rfl | rfl | rfl | rfl | rfl <;> first | rfl | omega) ?_
            exact J55
  refine r_iload1 hR dX8_blownTo_0 ?_
  refine r_bipush hR (nI 7) (by decide) dX8_blownTo_1 ?_
  refine r_icmp_eq hR 11 dX8_blownTo_3 (by decide) (fun c3 => ?_) (fun c3 => ?_)
  · try simp (disch := omega) only [nI_ltI, nI_leI, nI_eq, bI_0, Decidable.not_not, lc_lt, lc_gt, lc_ge, lc_le, lc_eq, i64_toInt] at c3
    try simp (disch := omega) only [cv_lt, cv_le, cv_eq, nI_toInt, cv_0] at c3
    first
    | omega
    | refine r_iconst hR (-1) (by decide) dX8_blownTo_11 ?_
      refine r_goto hR 31 dX8_blownTo_12 (by decide) ?_
      refine r_nm ((sFl 0).getD w 0) (by rcases (show w = 0 ∨ w = 1 ∨ w = 2 ∨ w = 3 ∨ w = 4 ∨ w = 5 ∨ w = 6 ∨ w = 7 by omega) with rfl | rfl | rfl | rfl | rfl | rfl | rfl | rfl <;> first | rfl | omega) ?_
      exact J31
  · try simp (disch := omega) only [nI_ltI, nI_leI, nI_eq, bI_0, Decidable.not_not, lc_lt, lc_gt, lc_ge, lc_le, lc_eq, i64_toInt] at c3
    try simp (disch := omega) only [cv_lt, cv_le, cv_eq, nI_toInt, cv_0] at c3
    first
    | omega
    | refine r_iload1 hR dX8_blownTo_6 ?_
      refine r_iconst hR (nI 2) (by decide) dX8_blownTo_7 ?_
      refine r_icmp_ge hR 15 dX8_blownTo_8 (by decide) (fun c8 => ?_) (fun c8 => ?_)
      · try simp (disch := omega) only [nI_ltI, nI_leI, nI_eq, bI_0, Decidable.not_not, lc_lt, lc_gt, lc_ge, lc_le, lc_eq, i64_toInt] at c8
        try simp (disch := omega) only [cv_lt, cv_le, cv_eq, nI_toInt, cv_0] at c8
        first
        | omega
        | refine r_iload1 hR dX8_blownTo_15 ?_
          refine r_iconst hR (nI 2) (by decide) dX8_blownTo_16 ?_
          refine r_icmp_le hR 30 dX8_blownTo_17 (by decide) (fun c17 => ?_) (fun c17 => ?_)
          · try simp (disch := omega) only [nI_ltI, nI_leI, nI_eq, bI_0, Decidable.not_not, lc_lt, lc_gt, lc_ge, lc_le, lc_eq, i64_toInt] at c17
            try simp (disch := omega) only [cv_lt, cv_le, cv_eq, nI_toInt, cv_0] at c17
            first
            | omega
            | refine r_iconst hR (nI 0) (by decide) dX8_blownTo_30 ?_
              refine r_nm ((sFl 0).getD w 0) (by rcases (show w = 0 ∨ w = 1 ∨ w = 2 ∨ w = 3 ∨ w = 4 ∨ w = 5 ∨ w = 6 ∨ w = 7 by omega) with rfl | rfl | rfl | rfl | rfl | rfl | rfl | rfl <;> first | rfl | omega) ?_
              exact J31
          · try simp (disch := omega) only [nI_ltI, nI_leI, nI_eq, bI_0, Decidable.not_not, lc_lt, lc_gt, lc_ge, lc_le, lc_eq, i64_toInt] at c17
            try simp (disch := omega) only [cv_lt, cv_le, cv_eq, nI_toInt, cv_0] at c17
            first
            | omega
            | refine r_iload1 hR dX8_blownTo_20 ?_
              refine r_bipush hR (nI 6) (by decide) dX8_blownTo_21 ?_
              refine r_icmp_ge hR 30 dX8_blownTo_23 (by decide) (fun c23 => ?_) (fun c23 => ?_)
              · try simp (disch := omega) only [nI_ltI, nI_leI, nI_eq, bI_0, Decidable.not_not, lc_lt, lc_gt, lc_ge, lc_le, lc_eq, i64_toInt] at c23
                try simp (disch := omega) only [cv_lt, cv_le, cv_eq, nI_toInt, cv_0] at c23
                first
                | omega
                | refine r_iconst hR (nI 0) (by decide) dX8_blownTo_30 ?_
                  refine r_nm ((sFl 0).getD w 0) (by rcases (show w = 0 ∨ w = 1 ∨ w = 2 ∨ w = 3 ∨ w = 4 ∨ w = 5 ∨ w = 6 ∨ w = 7 by omega) with rfl | rfl | rfl | rfl | rfl | rfl | rfl | rfl <;> first | rfl | omega) ?_
                  exact J31
              · try simp (disch := omega) only [nI_ltI, nI_leI, nI_eq, bI_0, Decidable.not_not, lc_lt, lc_gt, lc_ge, lc_le, lc_eq, i64_toInt] at c23
                try simp (disch := omega) only [cv_lt, cv_le, cv_eq, nI_toInt, cv_0] at c23
                first
                | omega
                | refine r_iconst hR (nI 1) (by decide) dX8_blownTo_26 ?_
                  refine r_goto hR 31 dX8_blownTo_27 (by decide) ?_
                  refine r_nm ((sFl 0).getD w 0) (by rcases (show w = 0 ∨ w = 1 ∨ w = 2 ∨ w = 3 ∨ w = 4 ∨ w = 5 ∨ w = 6 ∨ w = 7 by omega) with rfl | rfl | rfl | rfl | rfl | rfl | rfl | rfl <;> first | rfl | omega) ?_
                  exact J31
      · try simp (disch := omega) only [nI_ltI, nI_leI, nI_eq, bI_0, Decidable.not_not, lc_lt, lc_gt, lc_ge, lc_le, lc_eq, i64_toInt] at c8
        try simp (disch := omega) only [cv_lt, cv_le, cv_eq, nI_toInt, cv_0] at c8
        first
        | omega
        | refine r_iconst hR (-1) (by decide) dX8_blownTo_11 ?_
          refine r_goto hR 31 dX8_blownTo_12 (by decide) ?_
          refine r_nm ((sFl 0).getD w 0) (by rcases (show w = 0 ∨ w = 1 ∨ w = 2 ∨ w = 3 ∨ w = 4 ∨ w = 5 ∨ w = 6 ∨ w = 7 by omega) with rfl | rfl | rfl | rfl | rfl | rfl | rfl | rfl <;> first | rfl | omega) ?_
          exact J31

set_option maxHeartbeats 4000000 in
set_option maxRecDepth 100000 in
theorem t_X8_ails {G : gG} {M : gM} {S : Nat → Nat} (h : rowP M 0 S) {w v : Nat} (hs : S 2 < 256) (hw : w < 8) (hv : v < 2) : Cf G mX8_ails 0 [.ref (ad G 15 0), .int (nI w), .int (nI v)] M none (seti M 16 0 2 (nI (mkS (S 2) w v))) := by
  refine Ct.of (by decide +kernel) (k := 0) (ls0 := [some (.ref (ad G 15 0)), some (.int (nI w)), some (.int (nI v))]) rfl rfl (fun _ _ => trivial) ?_
  intro P hR
  have J35 : P 35 [some (.ref (ad G 15 0)), some (.int (nI w)), some (.int (nI v))] [.int (nI (mkS (S 2) w v)), .int (nI 2), .ref (ad G 16 0)] M := by
    refine r_iast hR (by first | decide | assumption | (simp only [gcnt_4, gcnt_1, gcnt_2, gcnt_3, gcnt_12, gcnt_13, gcnt_16]; omega)) (fun _ => rfl) rfl (by omega) (by decide) dX8_ails_35 ?_
    refine r_vret hR dX8_ails_36 ?_
    exact ⟨rfl, rfl⟩
  refine r_aload0 hR dX8_ails_0 ?_
  refine r_get hR (by first | decide | assumption | (simp only [gcnt_4, gcnt_1, gcnt_2, gcnt_3, gcnt_12, gcnt_13, gcnt_16]; omega)) fl_X8_9 rfl rfl dX8_ails_1 ?_
  refine r_iconst hR (nI 2) (by decide) dX8_ails_4 ?_
  refine r_iload2 hR dX8_ails_5 ?_
  refine r_iconst hR (nI 1) (by decide) dX8_ails_6 ?_
  refine r_icmp_ne hR 23 dX8_ails_7 (by decide) (fun c7 => ?_) (fun c7 => ?_)
  · try simp (disch := omega) only [nI_ltI, nI_leI, nI_eq, bI_0, Decidable.not_not, lc_lt, lc_gt, lc_ge, lc_le, lc_eq, i64_toInt] at c7
    try simp (disch := omega) only [cv_lt, cv_le, cv_eq, nI_toInt, cv_0] at c7
    first
    | omega
    | refine r_aload0 hR dX8_ails_23 ?_
      refine r_get hR (by first | decide | assumption | (simp only [gcnt_4, gcnt_1, gcnt_2, gcnt_3, gcnt_12, gcnt_13, gcnt_16]; omega)) fl_X8_9 rfl rfl dX8_ails_24 ?_
      refine r_iconst hR (nI 2) (by decide) dX8_ails_27 ?_
      refine r_iald hR (by first | decide | assumption | (simp only [gcnt_4, gcnt_1, gcnt_2, gcnt_3, gcnt_12, gcnt_13, gcnt_16]; omega)) rfl rfl (by omega) (by decide) dX8_ails_28 ?_
      rw [h 2 (by omega)]
      refine r_iconst hR (nI 1) (by decide) dX8_ails_29 ?_
      refine r_iload1 hR dX8_ails_30 ?_
      refine r_ishl hR dX8_ails_31 ?_
      refine r_iconst hR (-1) (by decide) dX8_ails_32 ?_
      refine r_ixor hR dX8_ails_33 ?_
      refine r_iand hR dX8_ails_34 ?_
      refine r_nm _ (sick_t (S 2) hs w hw).2.2.1 ?_
      refine r_nm (nI (mkS (S 2) w v)) (by rcases (show v = 0 ∨ v = 1 by omega) with rfl | rfl <;> first | rfl | omega) ?_
      exact J35
  · try simp (disch := omega) only [nI_ltI, nI_leI, nI_eq, bI_0, Decidable.not_not, lc_lt, lc_gt, lc_ge, lc_le, lc_eq, i64_toInt] at c7
    try simp (disch := omega) only [cv_lt, cv_le, cv_eq, nI_toInt, cv_0] at c7
    first
    | omega
    | refine r_aload0 hR dX8_ails_10 ?_
      refine r_get hR (by first | decide | assumption | (simp only [gcnt_4, gcnt_1, gcnt_2, gcnt_3, gcnt_12, gcnt_13, gcnt_16]; omega)) fl_X8_9 rfl rfl dX8_ails_11 ?_
      refine r_iconst hR (nI 2) (by decide) dX8_ails_14 ?_
      refine r_iald hR (by first | decide | assumption | (simp only [gcnt_4, gcnt_1, gcnt_2, gcnt_3, gcnt_12, gcnt_13, gcnt_16]; omega)) rfl rfl (by omega) (by decide) dX8_ails_15 ?_
      rw [h 2 (by omega)]
      refine r_iconst hR (nI 1) (by decide) dX8_ails_16 ?_
      refine r_iload1 hR dX8_ails_17 ?_
      refine r_ishl hR dX8_ails_18 ?_
      refine r_ior hR dX8_ails_19 ?_
      refine r_nm _ (sick_t (S 2) hs w hw).2.1 ?_
      refine r_goto hR 35 dX8_ails_20 (by decide) ?_
      refine r_nm (nI (mkS (S 2) w v)) (by rcases (show v = 0 ∨ v = 1 by omega) with rfl | rfl <;> first | rfl | omega) ?_
      exact J35

set_option maxHeartbeats 4000000 in
set_option maxRecDepth 100000 in
theorem t_X8_off {G : gG} {M : gM} {S : Nat → Nat} (h : rowP M 0 S) (hwf : wfS S) {t w : Nat} (ht : t < S 3) (hw : w < 9) : Cf G mX8_off 1 [.ref (ad G 15 0), .int (nI t), .int (nI w)] M (some (.int (nI (offN (thg S t 2) w)))) M := by
  obtain ⟨w0, w1, w2, w3, wr, wt⟩ := id hwf
  have q0 : thg S t 0 < 6 := by have := wt t ht; unfold thg; rw [Nat.add_zero]; omega
  have q1 : thg S t 1 < 36 := by have := wt t ht; unfold thg; omega
  have q2 : thg S t 2 < 8 := by have := wt t ht; unfold thg; omega
  have q3 : thg S t 3 ≤ 99999 := by have := wt t ht; unfold thg; omega
  refine Ct.of (by decide +kernel) (k := 1) (ls0 := [some (.ref (ad G 15 0)), some (.int (nI t)), some (.int (nI w)), none]) rfl rfl (fun _ _ => trivial) ?_
  intro P hR
  refine r_iload2 hR dX8_off_0 ?_
  refine r_aload0 hR dX8_off_1 ?_
  refine r_iload1 hR dX8_off_2 ?_
  refine r_iconst hR (nI 2) (by decide) dX8_off_3 ?_
  refine r_cv2v hR kv_X8_75 (by decide) (t_X8_it h ht (by decide) w3) (by first | decide | assumption | (simp only [gcnt_4, gcnt_1, gcnt_2, gcnt_3, gcnt_12, gcnt_13, gcnt_16]; omega)) rfl rfl (Nat.le_of_ble_eq_true rfl) dX8_off_4 ?_
  refine r_icmp_le hR 21 dX8_off_7 (by decide) (fun c7 => ?_) (fun c7 => ?_)
  · try simp (disch := omega) only [nI_ltI, nI_leI, nI_eq, bI_0, Decidable.not_not, lc_lt, lc_gt, lc_ge, lc_le, lc_eq, i64_toInt] at c7
    try simp (disch := omega) only [cv_lt, cv_le, cv_eq, nI_toInt, cv_0] at c7
    first
    | omega
    | refine r_aload0 hR dX8_off_21 ?_
      refine r_iload1 hR dX8_off_22 ?_
      refine r_iconst hR (nI 2) (by decide) dX8_off_23 ?_
      refine r_cv2v hR kv_X8_75 (by decide) (t_X8_it h ht (by decide) w3) (by first | decide | assumption | (simp only [gcnt_4, gcnt_1, gcnt_2, gcnt_3, gcnt_12, gcnt_13, gcnt_16]; omega)) rfl rfl (Nat.le_of_ble_eq_true rfl) dX8_off_24 ?_
      refine r_iload2 hR dX8_off_27 ?_
      refine r_isubN hR (by omega) dX8_off_28 ?_
      refine r_istore3 hR (fun _ h => by first | (cases h; rfl) | exact absurd h (by simp)) dX8_off_29 ?_
      refine r_iload2 hR dX8_off_30 ?_
      refine r_bipush hR (nI 8) (by decide) dX8_off_31 ?_
      refine r_icmp_ne hR 40 dX8_off_33 (by decide) (fun c33 => ?_) (fun c33 => ?_)
      · try simp (disch := omega) only [nI_ltI, nI_leI, nI_eq, bI_0, Decidable.not_not, lc_lt, lc_gt, lc_ge, lc_le, lc_eq, i64_toInt] at c33
        try simp (disch := omega) only [cv_lt, cv_le, cv_eq, nI_toInt, cv_0] at c33
        first
        | omega
        | refine r_iload3 hR dX8_off_40 ?_
          refine r_iconst hR (nI 4) (by decide) dX8_off_41 ?_
          refine r_icmp_le hR 52 dX8_off_42 (by decide) (fun c42 => ?_) (fun c42 => ?_)
          · try simp (disch := omega) only [nI_ltI, nI_leI, nI_eq, bI_0, Decidable.not_not, lc_lt, lc_gt, lc_ge, lc_le, lc_eq, i64_toInt] at c42
            try simp (disch := omega) only [cv_lt, cv_le, cv_eq, nI_toInt, cv_0] at c42
            first
            | omega
            | refine r_iload3 hR dX8_off_52 ?_
              refine r_iret hR dX8_off_53 ?_
              refine ⟨congrArg (fun z => some (Value.int (nI z))) ?_, rfl⟩
              unfold offN
              (repeat' split) <;> omega
          · try simp (disch := omega) only [nI_ltI, nI_leI, nI_eq, bI_0, Decidable.not_not, lc_lt, lc_gt, lc_ge, lc_le, lc_eq, i64_toInt] at c42
            try simp (disch := omega) only [cv_lt, cv_le, cv_eq, nI_toInt, cv_0] at c42
            first
            | omega
            | refine r_bipush hR (nI 8) (by decide) dX8_off_45 ?_
              refine r_iload3 hR dX8_off_47 ?_
              refine r_isubN hR (by omega) dX8_off_48 ?_
              refine r_goto hR 53 dX8_off_49 (by decide) ?_
              refine r_iret hR dX8_off_53 ?_
              refine ⟨congrArg (fun z => some (Value.int (nI z))) ?_, rfl⟩
              unfold offN
              (repeat' split) <;> omega
      · try simp (disch := omega) only [nI_ltI, nI_leI, nI_eq, bI_0, Decidable.not_not, lc_lt, lc_gt, lc_ge, lc_le, lc_eq, i64_toInt] at c33
        try simp (disch := omega) only [cv_lt, cv_le, cv_eq, nI_toInt, cv_0] at c33
        first
        | omega
        | refine r_iconst hR (nI 4) (by decide) dX8_off_36 ?_
          refine r_goto hR 53 dX8_off_37 (by decide) ?_
          refine r_iret hR dX8_off_53 ?_
          refine ⟨congrArg (fun z => some (Value.int (nI z))) ?_, rfl⟩
          unfold offN
          (repeat' split) <;> omega
  · try simp (disch := omega) only [nI_ltI, nI_leI, nI_eq, bI_0, Decidable.not_not, lc_lt, lc_gt, lc_ge, lc_le, lc_eq, i64_toInt] at c7
    try simp (disch := omega) only [cv_lt, cv_le, cv_eq, nI_toInt, cv_0] at c7
    first
    | omega
    | refine r_iload2 hR dX8_off_10 ?_
      refine r_aload0 hR dX8_off_11 ?_
      refine r_iload1 hR dX8_off_12 ?_
      refine r_iconst hR (nI 2) (by decide) dX8_off_13 ?_
      refine r_cv2v hR kv_X8_75 (by decide) (t_X8_it h ht (by decide) w3) (by first | decide | assumption | (simp only [gcnt_4, gcnt_1, gcnt_2, gcnt_3, gcnt_12, gcnt_13, gcnt_16]; omega)) rfl rfl (Nat.le_of_ble_eq_true rfl) dX8_off_14 ?_
      refine r_isubN hR (by omega) dX8_off_17 ?_
      refine r_goto hR 29 dX8_off_18 (by decide) ?_
      refine r_istore3 hR (fun _ h => by first | (cases h; rfl) | exact absurd h (by simp)) dX8_off_29 ?_
      refine r_iload2 hR dX8_off_30 ?_
      refine r_bipush hR (nI 8) (by decide) dX8_off_31 ?_
      refine r_icmp_ne hR 40 dX8_off_33 (by decide) (fun c33 => ?_) (fun c33 => ?_)
      · try simp (disch := omega) only [nI_ltI, nI_leI, nI_eq, bI_0, Decidable.not_not, lc_lt, lc_gt, lc_ge, lc_le, lc_eq, i64_toInt] at c33
        try simp (disch := omega) only [cv_lt, cv_le, cv_eq, nI_toInt, cv_0] at c33
        first
        | omega
        | refine r_iload3 hR dX8_off_40 ?_
          refine r_iconst hR (nI 4) (by decide) dX8_off_41 ?_
          refine r_icmp_le hR 52 dX8_off_42 (by decide) (fun c42 => ?_) (fun c42 => ?_)
          · try simp (disch := omega) only [nI_ltI, nI_leI, nI_eq, bI_0, Decidable.not_not, lc_lt, lc_gt, lc_ge, lc_le, lc_eq, i64_toInt] at c42
            try simp (disch := omega) only [cv_lt, cv_le, cv_eq, nI_toInt, cv_0] at c42
            first
            | omega
            | refine r_iload3 hR dX8_off_52 ?_
              refine r_iret hR dX8_off_53 ?_
              refine ⟨congrArg (fun z => some (Value.int (nI z))) ?_, rfl⟩
              unfold offN
              (repeat' split) <;> omega
          · try simp (disch := omega) only [nI_ltI, nI_leI, nI_eq, bI_0, Decidable.not_not, lc_lt, lc_gt, lc_ge, lc_le, lc_eq, i64_toInt] at c42
            try simp (disch := omega) only [cv_lt, cv_le, cv_eq, nI_toInt, cv_0] at c42
            first
            | omega
            | refine r_bipush hR (nI 8) (by decide) dX8_off_45 ?_
              refine r_iload3 hR dX8_off_47 ?_
              refine r_isubN hR (by omega) dX8_off_48 ?_
              refine r_goto hR 53 dX8_off_49 (by decide) ?_
              refine r_iret hR dX8_off_53 ?_
              refine ⟨congrArg (fun z => some (Value.int (nI z))) ?_, rfl⟩
              unfold offN
              (repeat' split) <;> omega
      · try simp (disch := omega) only [nI_ltI, nI_leI, nI_eq, bI_0, Decidable.not_not, lc_lt, lc_gt, lc_ge, lc_le, lc_eq, i64_toInt] at c33
        try simp (disch := omega) only [cv_lt, cv_le, cv_eq, nI_toInt, cv_0] at c33
        first
        | omega
        | refine r_iconst hR (nI 4) (by decide) dX8_off_36 ?_
          refine r_goto hR 53 dX8_off_37 (by decide) ?_
          refine r_iret hR dX8_off_53 ?_
          refine ⟨congrArg (fun z => some (Value.int (nI z))) ?_, rfl⟩
          unfold offN
          (repeat' split) <;> omega

set_option maxHeartbeats 4000000 in
set_option maxRecDepth 100000 in
theorem t_X8_doesGo {G : gG} {M : gM} {S : Nat → Nat} (h : rowP M 0 S) (hwf : wfS S) {t w : Nat} (ht : t < S 3) (hw : w < 9) : Cf G mX8_doesGo 2 [.ref (ad G 15 0), .int (nI t), .int (nI w)] M (some (.int (bI (goN (thg S t 0) (thg S t 2) (S 1) w)))) M := by
  obtain ⟨w0, w1, w2, w3, wr, wt⟩ := id hwf
  have q0 : thg S t 0 < 6 := by have := wt t ht; unfold thg; rw [Nat.add_zero]; omega
  have q1 : thg S t 1 < 36 := by have := wt t ht; unfold thg; omega
  have q2 : thg S t 2 < 8 := by have := wt t ht; unfold thg; omega
  have q3 : thg S t 3 ≤ 99999 := by have := wt t ht; unfold thg; omega
  refine Ct.of (by decide +kernel) (k := 0) (ls0 := [some (.ref (ad G 15 0)), some (.int (nI t)), some (.int (nI w))]) rfl rfl (fun _ _ => trivial) ?_
  intro P hR
  refine r_iload2 hR dX8_doesGo_0 ?_
  refine r_bipush hR (nI 8) (by decide) dX8_doesGo_1 ?_
  refine r_icmp_ne hR 8 dX8_doesGo_3 (by decide) (fun c3 => ?_) (fun c3 => ?_)
  · try simp (disch := omega) only [nI_ltI, nI_leI, nI_eq, bI_0, Decidable.not_not, lc_lt, lc_gt, lc_ge, lc_le, lc_eq, i64_toInt] at c3
    try simp (disch := omega) only [cv_lt, cv_le, cv_eq, nI_toInt, cv_0] at c3
    first
    | omega
    | refine r_aload0 hR dX8_doesGo_8 ?_
      refine r_iload1 hR dX8_doesGo_9 ?_
      refine r_iconst hR (nI 0) (by decide) dX8_doesGo_10 ?_
      refine r_cv2v hR kv_X8_75 (by decide) (t_X8_it h ht (by decide) w3) (by first | decide | assumption | (simp only [gcnt_4, gcnt_1, gcnt_2, gcnt_3, gcnt_12, gcnt_13, gcnt_16]; omega)) rfl rfl (Nat.le_of_ble_eq_true rfl) dX8_doesGo_11 ?_
      by_cases e1 : thg S t 0 = 1
      · refine r_swInN hR 1 e1 (by decide) 48 dX8_doesGo_14 (by decide) (by decide) rfl (by decide) ?_
        refine r_aload0 hR dX8_doesGo_48 ?_
        refine r_get hR (by first | decide | assumption | (simp only [gcnt_4, gcnt_1, gcnt_2, gcnt_3, gcnt_12, gcnt_13, gcnt_16]; omega)) fl_X8_9 rfl rfl dX8_doesGo_49 ?_
        refine r_iconst hR (nI 1) (by decide) dX8_doesGo_52 ?_
        refine r_iald hR (by first | decide | assumption | (simp only [gcnt_4, gcnt_1, gcnt_2, gcnt_3, gcnt_12, gcnt_13, gcnt_16]; omega)) rfl rfl (by omega) (by decide) dX8_doesGo_53 ?_
        rw [h 1 (by omega)]
        refine r_iconst hR (nI 2) (by decide) dX8_doesGo_54 ?_
        refine r_icmp_lt hR 62 dX8_doesGo_55 (by decide) (fun c55 => ?_) (fun c55 => ?_)
        · try simp (disch := omega) only [nI_ltI, nI_leI, nI_eq, bI_0, Decidable.not_not, lc_lt, lc_gt, lc_ge, lc_le, lc_eq, i64_toInt] at c55
          try simp (disch := omega) only [cv_lt, cv_le, cv_eq, nI_toInt, cv_0] at c55
          first
          | omega
          | refine r_iconst hR (nI 0) (by decide) dX8_doesGo_62 ?_
            refine r_zret hR dX8_doesGo_63 rfl ?_
            refine ⟨?_, rfl⟩
            first | (rw [bI_t]; omega) | (rw [bI_f]; omega)
        · try simp (disch := omega) only [nI_ltI, nI_leI, nI_eq, bI_0, Decidable.not_not, lc_lt, lc_gt, lc_ge, lc_le, lc_eq, i64_toInt] at c55
          try simp (disch := omega) only [cv_lt, cv_le, cv_eq, nI_toInt, cv_0] at c55
          first
          | omega
          | refine r_iconst hR (nI 1) (by decide) dX8_doesGo_58 ?_
            refine r_goto hR 63 dX8_doesGo_59 (by decide) ?_
            refine r_zret hR dX8_doesGo_63 rfl ?_
            refine ⟨?_, rfl⟩
            first | (rw [bI_t]; omega) | (rw [bI_f]; omega)
      · skip
        by_cases e2 : thg S t 0 = 2
        · refine r_swInN hR 2 e2 (by decide) 64 dX8_doesGo_14 (by decide) (by decide) rfl (by decide) ?_
          refine r_aload0 hR dX8_doesGo_64 ?_
          refine r_get hR (by first | decide | assumption | (simp only [gcnt_4, gcnt_1, gcnt_2, gcnt_3, gcnt_12, gcnt_13, gcnt_16]; omega)) fl_X8_9 rfl rfl dX8_doesGo_65 ?_
          refine r_iconst hR (nI 1) (by decide) dX8_doesGo_68 ?_
          refine r_iald hR (by first | decide | assumption | (simp only [gcnt_4, gcnt_1, gcnt_2, gcnt_3, gcnt_12, gcnt_13, gcnt_16]; omega)) rfl rfl (by omega) (by decide) dX8_doesGo_69 ?_
          rw [h 1 (by omega)]
          refine r_bipush hR (nI 9) (by decide) dX8_doesGo_70 ?_
          refine r_icmp_ne hR 79 dX8_doesGo_72 (by decide) (fun c72 => ?_) (fun c72 => ?_)
          · try simp (disch := omega) only [nI_ltI, nI_leI, nI_eq, bI_0, Decidable.not_not, lc_lt, lc_gt, lc_ge, lc_le, lc_eq, i64_toInt] at c72
            try simp (disch := omega) only [cv_lt, cv_le, cv_eq, nI_toInt, cv_0] at c72
            first
            | omega
            | refine r_iconst hR (nI 0) (by decide) dX8_doesGo_79 ?_
              refine r_zret hR dX8_doesGo_80 rfl ?_
              refine ⟨?_, rfl⟩
              first | (rw [bI_t]; omega) | (rw [bI_f]; omega)
          · try simp (disch := omega) only [nI_ltI, nI_leI, nI_eq, bI_0, Decidable.not_not, lc_lt, lc_gt, lc_ge, lc_le, lc_eq, i64_toInt] at c72
            try simp (disch := omega) only [cv_lt, cv_le, cv_eq, nI_toInt, cv_0] at c72
            first
            | omega
            | refine r_iconst hR (nI 1) (by decide) dX8_doesGo_75 ?_
              refine r_goto hR 80 dX8_doesGo_76 (by decide) ?_
              refine r_zret hR dX8_doesGo_80 rfl ?_
              refine ⟨?_, rfl⟩
              first | (rw [bI_t]; omega) | (rw [bI_f]; omega)
        · skip
          by_cases e3 : thg S t 0 = 3
          · refine r_swInN hR 3 e3 (by decide) 107 dX8_doesGo_14 (by decide) (by decide) rfl (by decide) ?_
            refine r_iconst hR (nI 0) (by decide) dX8_doesGo_107 ?_
            refine r_zret hR dX8_doesGo_108 rfl ?_
            refine ⟨?_, rfl⟩
            first | (rw [bI_t]; omega) | (rw [bI_f]; omega)
          · skip
            by_cases e4 : thg S t 0 = 4
            · refine r_swInN hR 4 e4 (by decide) 81 dX8_doesGo_14 (by decide) (by decide) rfl (by decide) ?_
              refine r_aload0 hR dX8_doesGo_81 ?_
              refine r_get hR (by first | decide | assumption | (simp only [gcnt_4, gcnt_1, gcnt_2, gcnt_3, gcnt_12, gcnt_13, gcnt_16]; omega)) fl_X8_9 rfl rfl dX8_doesGo_82 ?_
              refine r_iconst hR (nI 1) (by decide) dX8_doesGo_85 ?_
              refine r_iald hR (by first | decide | assumption | (simp only [gcnt_4, gcnt_1, gcnt_2, gcnt_3, gcnt_12, gcnt_13, gcnt_16]; omega)) rfl rfl (by omega) (by decide) dX8_doesGo_86 ?_
              rw [h 1 (by omega)]
              refine r_iconst hR (nI 2) (by decide) dX8_doesGo_87 ?_
              refine r_icmp_lt hR 105 dX8_doesGo_88 (by decide) (fun c88 => ?_) (fun c88 => ?_)
              · try simp (disch := omega) only [nI_ltI, nI_leI, nI_eq, bI_0, Decidable.not_not, lc_lt, lc_gt, lc_ge, lc_le, lc_eq, i64_toInt] at c88
                try simp (disch := omega) only [cv_lt, cv_le, cv_eq, nI_toInt, cv_0] at c88
                first
                | omega
                | refine r_iconst hR (nI 0) (by decide) dX8_doesGo_105 ?_
                  refine r_zret hR dX8_doesGo_106 rfl ?_
                  refine ⟨?_, rfl⟩
                  first | (rw [bI_t]; omega) | (rw [bI_f]; omega)
              · try simp (disch := omega) only [nI_ltI, nI_leI, nI_eq, bI_0, Decidable.not_not, lc_lt, lc_gt, lc_ge, lc_le, lc_eq, i64_toInt] at c88
                try simp (disch := omega) only [cv_lt, cv_le, cv_eq, nI_toInt, cv_0] at c88
                first
                | omega
                | refine r_aload0 hR dX8_doesGo_91 ?_
                  refine r_iload1 hR dX8_doesGo_92 ?_
                  refine r_iload2 hR dX8_doesGo_93 ?_
                  refine r_cv2v hR kv_X8_78 (by decide) (t_X8_off h hwf ht hw) (by first | decide | assumption | (simp only [gcnt_4, gcnt_1, gcnt_2, gcnt_3, gcnt_12, gcnt_13, gcnt_16]; omega)) rfl rfl (Nat.le_of_ble_eq_true rfl) dX8_doesGo_94 ?_
                  have hof := (off_t (thg S t 2) q2 w hw).1
                  refine r_iconst hR (nI 1) (by decide) dX8_doesGo_97 ?_
                  refine r_icmp_gt hR 105 dX8_doesGo_98 (by decide) (fun c98 => ?_) (fun c98 => ?_)
                  · try simp (disch := omega) only [nI_ltI, nI_leI, nI_eq, bI_0, Decidable.not_not, lc_lt, lc_gt, lc_ge, lc_le, lc_eq, i64_toInt] at c98
                    try simp (disch := omega) only [cv_lt, cv_le, cv_eq, nI_toInt, cv_0] at c98
                    first
                    | omega
                    | refine r_iconst hR (nI 0) (by decide) dX8_doesGo_105 ?_
                      refine r_zret hR dX8_doesGo_106 rfl ?_
                      refine ⟨?_, rfl⟩
                      first | (rw [bI_t]; omega) | (rw [bI_f]; omega)
                  · try simp (disch := omega) only [nI_ltI, nI_leI, nI_eq, bI_0, Decidable.not_not, lc_lt, lc_gt, lc_ge, lc_le, lc_eq, i64_toInt] at c98
                    try simp (disch := omega) only [cv_lt, cv_le, cv_eq, nI_toInt, cv_0] at c98
                    first
                    | omega
                    | refine r_iconst hR (nI 1) (by decide) dX8_doesGo_101 ?_
                      refine r_goto hR 106 dX8_doesGo_102 (by decide) ?_
                      refine r_zret hR dX8_doesGo_106 rfl ?_
                      refine ⟨?_, rfl⟩
                      first | (rw [bI_t]; omega) | (rw [bI_f]; omega)
            · skip
              by_cases e5 : thg S t 0 = 5
              · refine r_swInN hR 5 e5 (by decide) 64 dX8_doesGo_14 (by decide) (by decide) rfl (by decide) ?_
                refine r_aload0 hR dX8_doesGo_64 ?_
                refine r_get hR (by first | decide | assumption | (simp only [gcnt_4, gcnt_1, gcnt_2, gcnt_3, gcnt_12, gcnt_13, gcnt_16]; omega)) fl_X8_9 rfl rfl dX8_doesGo_65 ?_
                refine r_iconst hR (nI 1) (by decide) dX8_doesGo_68 ?_
                refine r_iald hR (by first | decide | assumption | (simp only [gcnt_4, gcnt_1, gcnt_2, gcnt_3, gcnt_12, gcnt_13, gcnt_16]; omega)) rfl rfl (by omega) (by decide) dX8_doesGo_69 ?_
                rw [h 1 (by omega)]
                refine r_bipush hR (nI 9) (by decide) dX8_doesGo_70 ?_
                refine r_icmp_ne hR 79 dX8_doesGo_72 (by decide) (fun c72 => ?_) (fun c72 => ?_)
                · try simp (disch := omega) only [nI_ltI, nI_leI, nI_eq, bI_0, Decidable.not_not, lc_lt, lc_gt, lc_ge, lc_le, lc_eq, i64_toInt] at c72
                  try simp (disch := omega) only [cv_lt, cv_le, cv_eq, nI_toInt, cv_0] at c72
                  first
                  | omega
                  | refine r_iconst hR (nI 0) (by decide) dX8_doesGo_79 ?_
                    refine r_zret hR dX8_doesGo_80 rfl ?_
                    refine ⟨?_, rfl⟩
                    first | (rw [bI_t]; omega) | (rw [bI_f]; omega)
                · try simp (disch := omega) only [nI_ltI, nI_leI, nI_eq, bI_0, Decidable.not_not, lc_lt, lc_gt, lc_ge, lc_le, lc_eq, i64_toInt] at c72
                  try simp (disch := omega) only [cv_lt, cv_le, cv_eq, nI_toInt, cv_0] at c72
                  first
                  | omega
                  | refine r_iconst hR (nI 1) (by decide) dX8_doesGo_75 ?_
                    refine r_goto hR 80 dX8_doesGo_76 (by decide) ?_
                    refine r_zret hR dX8_doesGo_80 rfl ?_
                    refine ⟨?_, rfl⟩
                    first | (rw [bI_t]; omega) | (rw [bI_f]; omega)
              · skip
                refine r_swOutN hR (k := thg S t 0) (by omega) 107 dX8_doesGo_14 (by omega) (by decide) ?_
                refine r_iconst hR (nI 0) (by decide) dX8_doesGo_107 ?_
                refine r_zret hR dX8_doesGo_108 rfl ?_
                refine ⟨?_, rfl⟩
                first | (rw [bI_t]; omega) | (rw [bI_f]; omega)
  · try simp (disch := omega) only [nI_ltI, nI_leI, nI_eq, bI_0, Decidable.not_not, lc_lt, lc_gt, lc_ge, lc_le, lc_eq, i64_toInt] at c3
    try simp (disch := omega) only [cv_lt, cv_le, cv_eq, nI_toInt, cv_0] at c3
    first
    | omega
    | refine r_iconst hR (nI 0) (by decide) dX8_doesGo_6 ?_
      refine r_zret hR dX8_doesGo_7 rfl ?_
      refine ⟨?_, rfl⟩
      first | (rw [bI_t]; omega) | (rw [bI_f]; omega)

set_option maxHeartbeats 4000000 in
set_option maxRecDepth 100000 in
theorem t_X8_earns {G : gG} {M : gM} {S : Nat → Nat} (h : rowP M 0 S) (hwf : wfS S) {t w : Nat} (ht : t < S 3) (hw : w < 9) : Cf G mX8_earns 3 [.ref (ad G 15 0), .int (nI t), .int (nI w)] M (some (.int (nI (earN (thg S t 0) (thg S t 2) (S 1) (S 0) w)))) M := by
  obtain ⟨w0, w1, w2, w3, wr, wt⟩ := id hwf
  have q0 : thg S t 0 < 6 := by have := wt t ht; unfold thg; rw [Nat.add_zero]; omega
  have q1 : thg S t 1 < 36 := by have := wt t ht; unfold thg; omega
  have q2 : thg S t 2 < 8 := by have := wt t ht; unfold thg; omega
  have q3 : thg S t 3 ≤ 99999 := by have := wt t ht; unfold thg; omega
  refine Ct.of (by decide +kernel) (k := 3) (ls0 := [some (.ref (ad G 15 0)), some (.int (nI t)), some (.int (nI w)), none, none, none]) rfl rfl (fun _ _ => trivial) ?_
  intro P hR
  have hof := (off_t (thg S t 2) q2 w hw).1
  have hfel : felN (S 1) w ≤ 9 := by unfold felN; split <;> omega
  have hmil := mil_le (f := thg S t 2) (w := w) w1
  have J48 : P 48 [some (.ref (ad G 15 0)), some (.int (nI t)), some (.int (nI w)), some (.int (nI (felN (S 1) w))), some (.int (nI (milN (thg S t 2) (S 1) w))), none] [.int (nI (driN (S 1) w))] M := by
    refine r_istore5 hR (fun _ h => by first | (cases h; rfl) | exact absurd h (by simp)) dX8_earns_48 ?_
    refine r_aload0 hR dX8_earns_50 ?_
    refine r_iload1 hR dX8_earns_51 ?_
    refine r_iconst hR (nI 0) (by decide) dX8_earns_52 ?_
    refine r_cv2v hR kv_X8_75 (by decide) (t_X8_it h ht (by decide) w3) (by first | decide | assumption | (simp only [gcnt_4, gcnt_1, gcnt_2, gcnt_3, gcnt_12, gcnt_13, gcnt_16]; omega)) rfl rfl (Nat.le_of_ble_eq_true rfl) dX8_earns_53 ?_
    by_cases e1 : thg S t 0 = 1
    · refine r_swInN hR 1 e1 (by decide) 92 dX8_earns_56 (by decide) (by decide) rfl (by decide) ?_
      refine r_iload4 hR dX8_earns_92 ?_
      refine r_iconst hR (nI 1) (by decide) dX8_earns_94 ?_
      refine r_iadd hR dX8_earns_95 ?_
      try rw [nI_add]
      refine r_iret hR dX8_earns_96 ?_
      refine ⟨congrArg (fun z => some (Value.int (nI z))) ?_, rfl⟩
      unfold earN
      (repeat' split) <;> first | omega | rfl
    · skip
      by_cases e2 : thg S t 0 = 2
      · refine r_swInN hR 2 e2 (by decide) 97 dX8_earns_56 (by decide) (by decide) rfl (by decide) ?_
        refine r_iload5 hR dX8_earns_97 ?_
        refine r_iret hR dX8_earns_99 ?_
        refine ⟨congrArg (fun z => some (Value.int (nI z))) ?_, rfl⟩
        unfold earN
        (repeat' split) <;> first | omega | rfl
      · skip
        by_cases e3 : thg S t 0 = 3
        · refine r_swInN hR 3 e3 (by decide) 100 dX8_earns_56 (by decide) (by decide) rfl (by decide) ?_
          refine r_aload0 hR dX8_earns_100 ?_
          refine r_iload1 hR dX8_earns_101 ?_
          refine r_iload2 hR dX8_earns_102 ?_
          refine r_cv2v hR kv_X8_78 (by decide) (t_X8_off h hwf ht hw) (by first | decide | assumption | (simp only [gcnt_4, gcnt_1, gcnt_2, gcnt_3, gcnt_12, gcnt_13, gcnt_16]; omega)) rfl rfl (Nat.le_of_ble_eq_true rfl) dX8_earns_103 ?_
          refine r_if_ne hR 116 dX8_earns_106 (by decide) (fun c106 => ?_) (fun c106 => ?_)
          · try simp (disch := omega) only [nI_ltI, nI_leI, nI_eq, bI_0, Decidable.not_not, lc_lt, lc_gt, lc_ge, lc_le, lc_eq, i64_toInt] at c106
            try simp (disch := omega) only [cv_lt, cv_le, cv_eq, nI_toInt, cv_0] at c106
            first
            | omega
            | refine r_iload4 hR dX8_earns_116 ?_
              refine r_iret hR dX8_earns_118 ?_
              refine ⟨congrArg (fun z => some (Value.int (nI z))) ?_, rfl⟩
              unfold earN
              (repeat' split) <;> first | omega | rfl
          · try simp (disch := omega) only [nI_ltI, nI_leI, nI_eq, bI_0, Decidable.not_not, lc_lt, lc_gt, lc_ge, lc_le, lc_eq, i64_toInt] at c106
            try simp (disch := omega) only [cv_lt, cv_le, cv_eq, nI_toInt, cv_0] at c106
            first
            | omega
            | refine r_iconst hR (nI 2) (by decide) dX8_earns_109 ?_
              refine r_iload4 hR dX8_earns_110 ?_
              refine r_imul hR dX8_earns_112 ?_
              try rw [pk_mul]
              refine r_goto hR 118 dX8_earns_113 (by decide) ?_
              refine r_iret hR dX8_earns_118 ?_
              refine ⟨congrArg (fun z => some (Value.int (nI z))) ?_, rfl⟩
              unfold earN
              (repeat' split) <;> first | omega | rfl
        · skip
          by_cases e4 : thg S t 0 = 4
          · refine r_swInN hR 4 e4 (by decide) 119 dX8_earns_56 (by decide) (by decide) rfl (by decide) ?_
            refine r_aload0 hR dX8_earns_119 ?_
            refine r_iload1 hR dX8_earns_120 ?_
            refine r_iload2 hR dX8_earns_121 ?_
            refine r_cv2v hR kv_X8_85 (by decide) (t_X8_doesGo h hwf ht hw) (by first | decide | assumption | (simp only [gcnt_4, gcnt_1, gcnt_2, gcnt_3, gcnt_12, gcnt_13, gcnt_16]; omega)) rfl rfl (Nat.le_of_ble_eq_true rfl) dX8_earns_122 ?_
            refine r_if_eq hR 135 dX8_earns_125 (by decide) (fun c125 => ?_) (fun c125 => ?_)
            · try simp (disch := omega) only [nI_ltI, nI_leI, nI_eq, bI_0, Decidable.not_not, lc_lt, lc_gt, lc_ge, lc_le, lc_eq, i64_toInt] at c125
              try simp (disch := omega) only [cv_lt, cv_le, cv_eq, nI_toInt, cv_0] at c125
              first
              | omega
              | refine r_iconst hR (nI 0) (by decide) dX8_earns_135 ?_
                refine r_iret hR dX8_earns_136 ?_
                refine ⟨congrArg (fun z => some (Value.int (nI z))) ?_, rfl⟩
                unfold earN
                (repeat' split) <;> first | omega | rfl
            · try simp (disch := omega) only [nI_ltI, nI_leI, nI_eq, bI_0, Decidable.not_not, lc_lt, lc_gt, lc_ge, lc_le, lc_eq, i64_toInt] at c125
              try simp (disch := omega) only [cv_lt, cv_le, cv_eq, nI_toInt, cv_0] at c125
              first
              | omega
              | refine r_iload4 hR dX8_earns_128 ?_
                refine r_iconst hR (nI 1) (by decide) dX8_earns_130 ?_
                refine r_iadd hR dX8_earns_131 ?_
                try rw [nI_add]
                refine r_goto hR 136 dX8_earns_132 (by decide) ?_
                refine r_iret hR dX8_earns_136 ?_
                refine ⟨congrArg (fun z => some (Value.int (nI z))) ?_, rfl⟩
                unfold earN
                (repeat' split) <;> first | omega | rfl
          · skip
            by_cases e5 : thg S t 0 = 5
            · refine r_swInN hR 5 e5 (by decide) 137 dX8_earns_56 (by decide) (by decide) rfl (by decide) ?_
              refine r_aload0 hR dX8_earns_137 ?_
              refine r_get hR (by first | decide | assumption | (simp only [gcnt_4, gcnt_1, gcnt_2, gcnt_3, gcnt_12, gcnt_13, gcnt_16]; omega)) fl_X8_9 rfl rfl dX8_earns_138 ?_
              refine r_iconst hR (nI 0) (by decide) dX8_earns_141 ?_
              refine r_iald hR (by first | decide | assumption | (simp only [gcnt_4, gcnt_1, gcnt_2, gcnt_3, gcnt_12, gcnt_13, gcnt_16]; omega)) rfl rfl (by omega) (by decide) dX8_earns_142 ?_
              rw [h 0 (by omega)]
              refine r_bipush hR (nI 7) (by decide) dX8_earns_143 ?_
              refine r_iremN hR (by omega) (by omega) (by omega) dX8_earns_145 ?_
              refine r_iconst hR (nI 1) (by decide) dX8_earns_146 ?_
              refine r_icmp_ne hR 157 dX8_earns_147 (by decide) (fun c147 => ?_) (fun c147 => ?_)
              · try simp (disch := omega) only [nI_ltI, nI_leI, nI_eq, bI_0, Decidable.not_not, lc_lt, lc_gt, lc_ge, lc_le, lc_eq, i64_toInt] at c147
                try simp (disch := omega) only [cv_lt, cv_le, cv_eq, nI_toInt, cv_0] at c147
                first
                | omega
                | refine r_iload5 hR dX8_earns_157 ?_
                  refine r_iret hR dX8_earns_159 ?_
                  refine ⟨congrArg (fun z => some (Value.int (nI z))) ?_, rfl⟩
                  unfold earN
                  (repeat' split) <;> first | omega | rfl
              · try simp (disch := omega) only [nI_ltI, nI_leI, nI_eq, bI_0, Decidable.not_not, lc_lt, lc_gt, lc_ge, lc_le, lc_eq, i64_toInt] at c147
                try simp (disch := omega) only [cv_lt, cv_le, cv_eq, nI_toInt, cv_0] at c147
                first
                | omega
                | refine r_iload5 hR dX8_earns_150 ?_
                  refine r_iconst hR (nI 5) (by decide) dX8_earns_152 ?_
                  refine r_iadd hR dX8_earns_153 ?_
                  try rw [nI_add]
                  refine r_goto hR 159 dX8_earns_154 (by decide) ?_
                  refine r_iret hR dX8_earns_159 ?_
                  refine ⟨congrArg (fun z => some (Value.int (nI z))) ?_, rfl⟩
                  unfold earN
                  (repeat' split) <;> first | omega | rfl
            · skip
              refine r_swOutN hR (k := thg S t 0) (by omega) 160 dX8_earns_56 (by omega) (by decide) ?_
              refine r_iload4 hR dX8_earns_160 ?_
              refine r_iret hR dX8_earns_162 ?_
              refine ⟨congrArg (fun z => some (Value.int (nI z))) ?_, rfl⟩
              unfold earN
              (repeat' split) <;> first | omega | rfl
  have J16 : P 16 [some (.ref (ad G 15 0)), some (.int (nI t)), some (.int (nI w)), none, none, none] [.int (nI (felN (S 1) w))] M := by
    refine r_istore3 hR (fun _ h => by first | (cases h; rfl) | exact absurd h (by simp)) dX8_earns_16 ?_
    refine r_iload3 hR dX8_earns_17 ?_
    refine r_aload0 hR dX8_earns_18 ?_
    refine r_iload1 hR dX8_earns_19 ?_
    refine r_iload2 hR dX8_earns_20 ?_
    refine r_cv2v hR kv_X8_78 (by decide) (t_X8_off h hwf ht hw) (by first | decide | assumption | (simp only [gcnt_4, gcnt_1, gcnt_2, gcnt_3, gcnt_12, gcnt_13, gcnt_16]; omega)) rfl rfl (Nat.le_of_ble_eq_true rfl) dX8_earns_21 ?_
    refine r_isub hR dX8_earns_24 ?_
    refine r_iconst hR (nI 0) (by decide) dX8_earns_25 ?_
    refine r_bipush hR (nI 9) (by decide) dX8_earns_26 ?_
    refine r_cs3v hR ks_X8_81 (by decide) (t_X8_held) (Nat.le_of_ble_eq_true rfl) dX8_earns_28 ?_
    refine r_nm (nI (milN (thg S t 2) (S 1) w)) (held9 (by omega) (by omega)) ?_
    refine r_istore4 hR (fun _ h => by first | (cases h; rfl) | exact absurd h (by simp)) dX8_earns_31 ?_
    refine r_iload3 hR dX8_earns_33 ?_
    refine r_i2l hR dX8_earns_34 ?_
    refine r_iconst hR (nI 1) (by decide) dX8_earns_35 ?_
    refine r_iconst hR (nI 5) (by decide) dX8_earns_36 ?_
    refine r_cs3v hR ks_X8_47 (by decide) (t_X8_in) (Nat.le_of_ble_eq_true rfl) dX8_earns_37 ?_
    refine r_if_eq hR 47 dX8_earns_40 (by decide) (fun c40 => ?_) (fun c40 => ?_)
    · try simp (disch := omega) only [nI_ltI, nI_leI, nI_eq, bI_0, Decidable.not_not, lc_lt, lc_gt, lc_ge, lc_le, lc_eq, i64_toInt] at c40
      try simp (disch := omega) only [cv_lt, cv_le, cv_eq, nI_toInt, cv_0] at c40
      first
      | omega
      | refine r_iconst hR (nI 0) (by decide) dX8_earns_47 ?_
        refine r_nm (nI (driN (S 1) w)) (by unfold driN; split <;> first | rfl | omega) ?_
        exact J48
    · try simp (disch := omega) only [nI_ltI, nI_leI, nI_eq, bI_0, Decidable.not_not, lc_lt, lc_gt, lc_ge, lc_le, lc_eq, i64_toInt] at c40
      try simp (disch := omega) only [cv_lt, cv_le, cv_eq, nI_toInt, cv_0] at c40
      first
      | omega
      | refine r_iconst hR (nI 3) (by decide) dX8_earns_43 ?_
        refine r_goto hR 48 dX8_earns_44 (by decide) ?_
        refine r_nm (nI (driN (S 1) w)) (by unfold driN; split <;> first | rfl | omega) ?_
        exact J48
  refine r_iload2 hR dX8_earns_0 ?_
  refine r_bipush hR (nI 8) (by decide) dX8_earns_1 ?_
  refine r_icmp_ne hR 10 dX8_earns_3 (by decide) (fun c3 => ?_) (fun c3 => ?_)
  · try simp (disch := omega) only [nI_ltI, nI_leI, nI_eq, bI_0, Decidable.not_not, lc_lt, lc_gt, lc_ge, lc_le, lc_eq, i64_toInt] at c3
    try simp (disch := omega) only [cv_lt, cv_le, cv_eq, nI_toInt, cv_0] at c3
    first
    | omega
    | refine r_aload0 hR dX8_earns_10 ?_
      refine r_get hR (by first | decide | assumption | (simp only [gcnt_4, gcnt_1, gcnt_2, gcnt_3, gcnt_12, gcnt_13, gcnt_16]; omega)) fl_X8_9 rfl rfl dX8_earns_11 ?_
      refine r_iconst hR (nI 1) (by decide) dX8_earns_14 ?_
      refine r_iald hR (by first | decide | assumption | (simp only [gcnt_4, gcnt_1, gcnt_2, gcnt_3, gcnt_12, gcnt_13, gcnt_16]; omega)) rfl rfl (by omega) (by decide) dX8_earns_15 ?_
      rw [h 1 (by omega)]
      refine r_nm (nI (felN (S 1) w)) (by unfold felN; split <;> first | rfl | omega) ?_
      exact J16
  · try simp (disch := omega) only [nI_ltI, nI_leI, nI_eq, bI_0, Decidable.not_not, lc_lt, lc_gt, lc_ge, lc_le, lc_eq, i64_toInt] at c3
    try simp (disch := omega) only [cv_lt, cv_le, cv_eq, nI_toInt, cv_0] at c3
    first
    | omega
    | refine r_iconst hR (nI 0) (by decide) dX8_earns_6 ?_
      refine r_goto hR 16 dX8_earns_7 (by decide) ?_
      refine r_nm (nI (felN (S 1) w)) (by unfold felN; split <;> first | rfl | omega) ?_
      exact J16

