/-! THE TEXT: tokens of the tape T, l bytes long. A token: what it is (0-11 a word, 20 a number, 21 the sign, 22 the end, 23 other), where it begins, what stands behind it, its value -/
def runE (c : Nat → Bool) (T : Nat → Nat) (l : Nat) : Nat → Nat → Nat
  | 0, p => p
  | k + 1, p => if p < l ∧ c (T p) = true then runE c T l k (p + 1) else p
def run (c : Nat → Bool) (T : Nat → Nat) (l p : Nat) : Nat := runE c T l (l - p) p
theorem run_no {c : Nat → Bool} {T : Nat → Nat} {l p : Nat} (h : ¬ (p < l ∧ c (T p) = true)) : run c T l p = p := by
  unfold run
  cases l - p with
  | zero => rfl
  | succ k => unfold runE; rw [if_neg h]
theorem run_st {c : Nat → Bool} {T : Nat → Nat} {l p : Nat} (h : p < l) (hc : c (T p) = true) : run c T l p = run c T l (p + 1) := by
  unfold run
  rw [show l - p = (l - (p + 1)) + 1 by omega]
  conv => lhs; unfold runE
  rw [if_pos ⟨h, hc⟩]
theorem runE_le (c : Nat → Bool) (T : Nat → Nat) (l k : Nat) : ∀ p, p ≤ runE c T l k p ∧ runE c T l k p ≤ p + k := by
  induction k with
  | zero => intro p; exact ⟨Nat.le_refl p, Nat.le_refl p⟩
  | succ k ih =>
    intro p
    unfold runE
    split
    · have := ih (p + 1); omega
    · omega
theorem run_le {c : Nat → Bool} {T : Nat → Nat} {l p : Nat} (h : p ≤ l) : p ≤ run c T l p ∧ run c T l p ≤ l := by
  have := runE_le c T l (l - p) p
  unfold run
  omega
def cSp (b : Nat) : Bool := b == 32
def cLe (b : Nat) : Bool := decide (97 ≤ b ∧ b ≤ 122)
def cDi (b : Nat) : Bool := decide (48 ≤ b ∧ b ≤ 57)
theorem cSp_i {b : Nat} : cSp b = true ↔ 32 ≤ b ∧ b ≤ 32 := by unfold cSp; rw [beq_iff_eq]; omega
theorem cLe_i {b : Nat} : cLe b = true ↔ 97 ≤ b ∧ b ≤ 122 := by unfold cLe; rw [decide_eq_true_eq]
theorem cDi_i {b : Nat} : cDi b = true ↔ 48 ≤ b ∧ b ≤ 57 := by unfold cDi; rw [decide_eq_true_eq]
def nmL : List (List Nat) := [[109, 105, 108, 108], [102, 105, 115, 104, 101, 114], [119, 97, 115, 104, 105, 110, 103], [107, 105, 116, 101], [99, 97, 112, 116, 97, 105, 110], [119, 105, 100, 111, 119], [97, 116], [102, 97, 99, 105, 110, 103], [114, 111, 116, 97], [115, 105, 99, 107], [119, 101, 108, 108], [102, 111, 114, 99, 101]]
def nm (w k : Nat) : Nat := (nmL.getD w []).getD k 0
theorem nm_t : ∀ w, w < 12 → ∀ k, k < 7 → (sFl 3).getD (7 * w + k) 0 = nI (nm w k) ∧ nm w k < 256 := by decide +kernel
def matN (T : Nat → Nat) (b w : Nat) : Nat → Bool
  | 0 => true
  | k + 1 => matN T b w k && decide (nm w k = T (b + k))
theorem matN_s (T : Nat → Nat) (b w k : Nat) : matN T b w (k + 1) = true ↔ matN T b w k = true ∧ nm w k = T (b + k) := by
  show (matN T b w k && decide (nm w k = T (b + k))) = true ↔ _
  rw [Bool.and_eq_true, decide_eq_true_eq]
theorem matN_m {T : Nat → Nat} {b w i n : Nat} (h : matN T b w n = true) (hi : i ≤ n) : matN T b w i = true := by
  induction n with
  | zero => obtain rfl : i = 0 := by omega
            exact h
  | succ n ih =>
    by_cases q : i = n + 1
    · subst q; exact h
    · exact ih ((matN_s T b w n).mp h).1 (by omega)
def wIs (T : Nat → Nat) (b n w : Nat) : Bool := decide (n ≤ 7 ∧ (n = 7 ∨ nm w n = 0)) && matN T b w n
theorem wIs_i {T : Nat → Nat} {b n w : Nat} : wIs T b n w = true ↔ (n ≤ 7 ∧ (n = 7 ∨ nm w n = 0)) ∧ matN T b w n = true := by
  unfold wIs
  rw [Bool.and_eq_true, decide_eq_true_eq]
def wordOf (T : Nat → Nat) (b n : Nat) : Nat := if firstN (wIs T b n) 12 0 = 12 then 23 else firstN (wIs T b n) 12 0
def valP (T : Nat → Nat) (b : Nat) : Nat → Nat
  | 0 => 0
  | k + 1 => if 999 < valP T b k then valP T b k else 10 * valP T b k + T (b + k) - 48
abbrev Lx : Type := Nat × Nat × Nat × Nat
def lexB (T : Nat → Nat) (l b : Nat) : Lx := if b = l then (22, b, b, 0) else if cLe (T b) = true then (wordOf T b (run cLe T l b - b), b, run cLe T l b, 0) else if cDi (T b) = true then (20, b, run cDi T l b, valP T b (run cDi T l b - b)) else (if T b = 59 then 21 else 23, b, b + 1, 0)
def lexN (T : Nat → Nat) (l p : Nat) : Lx := lexB T l (run cSp T l p)
/-! the reference's reading -/
def tapP (M : gM) (T : Nat → Nat) (l : Nat) : Prop := M.1 15 0 8 = nI l ∧ (∀ j, j < l → M.1 19 0 j = nI (T j)) ∧ l ≤ 120 ∧ ∀ j, T j < 256
theorem tap_s {M : gM} {T : Nat → Nat} {l k : Nat} {x : Int32} (h : tapP M T l) (hk : ¬ k = 8) : tapP (seti M 15 0 k x) T l := ⟨by rw [seti_r, if_neg (by omega)]; exact h.1, fun j hj => by rw [seti_r, if_neg (by omega)]; exact h.2.1 j hj, h.2.2⟩
def X8 (M : gM) (b q v : Nat) : gM := seti (seti (seti M 15 0 10 (nI b)) 15 0 12 (nI v)) 15 0 11 (nI q)
def lxM (M : gM) (L : Lx) : gM := seti (X8 M L.2.1 L.2.2.1 L.2.2.2) 15 0 9 (nI L.1)
theorem sext {M M' : gM} (h1 : ∀ r i k, M.1 r i k = M'.1 r i k) (h2 : M.2 = M'.2) : M = M' := gM_ext h1 h2
theorem seti_seti (M : gM) (r i k : Nat) (x y : Int32) : seti (seti M r i k x) r i k y = seti M r i k y := by
  refine gM_ext (fun r' i' k' => ?_) rfl
  rw [seti_r, seti_r, seti_r]
  split
  · rfl
  · rfl
theorem X_0 (M : gM) (b : Nat) : seti (seti (seti M 15 0 11 (nI b)) 15 0 10 (nI b)) 15 0 12 (nI 0) = X8 M b b 0 := by
  unfold X8
  refine gM_ext (fun r i k => ?_) rfl
  simp only [seti_r]
  (repeat' split) <;> first | rfl | omega
theorem X_at (M : gM) (b q v q' : Nat) : seti (X8 M b q v) 15 0 11 (nI q') = X8 M b q' v := seti_seti _ _ _ _ _ _
theorem X_v (M : gM) (b q v v' : Nat) : seti (X8 M b q v) 15 0 12 (nI v') = X8 M b q v' := by
  unfold X8
  refine gM_ext (fun r i k => ?_) rfl
  simp only [seti_r]
  (repeat' split) <;> first | rfl | omega
theorem X_11 (M : gM) (b q v : Nat) : (X8 M b q v).1 15 0 11 = nI q := by unfold X8; rw [seti_r, if_pos ⟨rfl, rfl, rfl⟩]
theorem X_12 (M : gM) (b q v : Nat) : (X8 M b q v).1 15 0 12 = nI v := by unfold X8; rw [seti_r, if_neg (by omega), seti_r, if_pos ⟨rfl, rfl, rfl⟩]
theorem X_10 (M : gM) (b q v : Nat) : (X8 M b q v).1 15 0 10 = nI b := by unfold X8; rw [seti_r, if_neg (by omega), seti_r, if_neg (by omega), seti_r, if_pos ⟨rfl, rfl, rfl⟩]
theorem X_tap {M : gM} {T : Nat → Nat} {l b q v : Nat} (h : tapP M T l) : tapP (X8 M b q v) T l := tap_s (tap_s (tap_s h (by omega)) (by omega)) (by omega)
theorem X_tk (M : gM) (b q v t q' : Nat) : seti (seti (X8 M b q v) 15 0 9 (nI t)) 15 0 11 (nI q') = seti (X8 M b q' v) 15 0 9 (nI t) := by
  unfold X8
  refine gM_ext (fun r i k => ?_) rfl
  simp only [seti_r]
  (repeat' split) <;> first | rfl | omega
set_option maxHeartbeats 4000000 in
set_option maxRecDepth 100000 in
theorem t_X8_isByte {G : gG} {M : gM} {T : Nat → Nat} {l : Nat} (h : tapP M T l) {k lo hi : Nat} (hk : k ≤ 120) (h1 : lo < 256) (h2 : hi < 256) : Cf G mX8_isByte 1 [.ref (ad G 15 0), .int (nI k), .int (nI lo), .int (nI hi)] M (some (.int (bI (k < l ∧ lo ≤ T k ∧ T k ≤ hi)))) M := by
  obtain ⟨hl, ht, hl2, hT⟩ := id h
  refine Ct.of (by decide +kernel) (k := 0) (ls0 := [some (.ref (ad G 15 0)), some (.int (nI k)), some (.int (nI lo)), some (.int (nI hi))]) rfl rfl (fun _ _ => trivial) ?_
  intro P hR
  refine r_iload1 hR dX8_isByte_0 ?_
  refine r_aload0 hR dX8_isByte_1 ?_
  refine r_get hR (by first | decide | assumption | (simp only [gcnt_4, gcnt_1, gcnt_2, gcnt_3, gcnt_12, gcnt_13, gcnt_16]; omega)) fl_X8_145 rfl rfl dX8_isByte_2 ?_
  rw [hl]
  refine r_icmp_ge hR 27 dX8_isByte_5 (by decide) (fun c5 => ?_) (fun c5 => ?_)
  · try simp (disch := omega) only [nI_ltI, nI_leI, nI_eq, bI_0, Decidable.not_not, lc_lt, lc_gt, lc_ge, lc_le, lc_eq, i64_toInt] at c5
    try simp (disch := omega) only [cv_lt, cv_le, cv_eq, nI_toInt, cv_0] at c5
    first
    | omega
    | refine r_iconst hR (nI 0) (by decide) dX8_isByte_27 ?_
      refine r_zret hR dX8_isByte_28 rfl ?_
      refine ⟨?_, rfl⟩
      first | (rw [bI_t (by omega)]; done) | (rw [bI_f (by omega)]; done)
  · try simp (disch := omega) only [nI_ltI, nI_leI, nI_eq, bI_0, Decidable.not_not, lc_lt, lc_gt, lc_ge, lc_le, lc_eq, i64_toInt] at c5
    try simp (disch := omega) only [cv_lt, cv_le, cv_eq, nI_toInt, cv_0] at c5
    first
    | omega
    | refine r_aload0 hR dX8_isByte_8 ?_
      refine r_get hR (by first | decide | assumption | (simp only [gcnt_4, gcnt_1, gcnt_2, gcnt_3, gcnt_12, gcnt_13, gcnt_16]; omega)) fl_X8_28 rfl rfl dX8_isByte_9 ?_
      refine r_iload1 hR dX8_isByte_12 ?_
      refine r_iald hR (by first | decide | assumption | (simp only [gcnt_4, gcnt_1, gcnt_2, gcnt_3, gcnt_12, gcnt_13, gcnt_16]; omega)) rfl rfl (by omega) (by decide) dX8_isByte_13 ?_
      rw [ht k (by omega)]
      have hTk := hT k
      refine r_i2l hR dX8_isByte_14 ?_
      refine r_iload2 hR dX8_isByte_15 ?_
      refine r_iload3 hR dX8_isByte_16 ?_
      refine r_cs3v hR ks_X8_47 (by decide) (t_X8_in) (Nat.le_of_ble_eq_true rfl) dX8_isByte_17 ?_
      refine r_if_eq hR 27 dX8_isByte_20 (by decide) (fun c20 => ?_) (fun c20 => ?_)
      · try simp (disch := omega) only [nI_ltI, nI_leI, nI_eq, bI_0, Decidable.not_not, lc_lt, lc_gt, lc_ge, lc_le, lc_eq, i64_toInt] at c20
        try simp (disch := omega) only [cv_lt, cv_le, cv_eq, nI_toInt, cv_0] at c20
        first
        | omega
        | refine r_iconst hR (nI 0) (by decide) dX8_isByte_27 ?_
          refine r_zret hR dX8_isByte_28 rfl ?_
          refine ⟨?_, rfl⟩
          first | (rw [bI_t (by omega)]; done) | (rw [bI_f (by omega)]; done)
      · try simp (disch := omega) only [nI_ltI, nI_leI, nI_eq, bI_0, Decidable.not_not, lc_lt, lc_gt, lc_ge, lc_le, lc_eq, i64_toInt] at c20
        try simp (disch := omega) only [cv_lt, cv_le, cv_eq, nI_toInt, cv_0] at c20
        first
        | omega
        | refine r_iconst hR (nI 1) (by decide) dX8_isByte_23 ?_
          refine r_goto hR 28 dX8_isByte_24 (by decide) ?_
          refine r_zret hR dX8_isByte_28 rfl ?_
          refine ⟨?_, rfl⟩
          first | (rw [bI_t (by omega)]; done) | (rw [bI_f (by omega)]; done)

set_option maxHeartbeats 4000000 in
set_option maxRecDepth 100000 in
theorem t_X8_isName {G : gG} {M : gM} {T : Nat → Nat} {l : Nat} (h : tapP M T l) {b w n : Nat} (hb : M.1 15 0 10 = nI b) (hw : w < 12) (hn : b + n ≤ l) : Cf G mX8_isName 0 [.ref (ad G 15 0), .int (nI w), .int (nI n)] M (some (.int (bI (wIs T b n w = true)))) M := by
  obtain ⟨hl, ht, hl2, hT⟩ := id h
  refine Ct.of (by decide +kernel) (k := 2) (ls0 := [some (.ref (ad G 15 0)), some (.int (nI w)), some (.int (nI n)), none, none]) rfl rfl (fun _ _ => trivial) ?_
  intro P hR
  have L : ∀ (j i : Nat), i + j = n → P 34 [some (.ref (ad G 15 0)), some (.int (nI w)), some (.int (nI n)), some (.int (bI ((n ≤ 7 ∧ (n = 7 ∨ nm w n = 0)) ∧ matN T b w i = true))), some (.int (nI i))] [] M := by
    intro j
    induction j with
    | zero =>
      intro i  hij 
      refine r_iload4 hR dX8_isName_34 ?_
      refine r_iload2 hR dX8_isName_36 ?_
      refine r_icmp_ge hR 82 dX8_isName_37 (by decide) (fun c37 => ?_) (fun c37 => ?_)
      · try simp (disch := omega) only [nI_ltI, nI_leI, nI_eq, bI_0, Decidable.not_not, lc_lt, lc_gt, lc_ge, lc_le, lc_eq, i64_toInt] at c37
        try simp (disch := omega) only [cv_lt, cv_le, cv_eq, nI_toInt, cv_0] at c37
        first
        | omega
        | refine r_iload3 hR dX8_isName_82 ?_
          refine r_zret hR dX8_isName_83 bI_n ?_
          refine ⟨congrArg (fun y => some (Value.int y)) (bI_c ?_), rfl⟩
          rw [wIs_i]
          first
          | exact ⟨fun y => absurd y c41, fun y => absurd ⟨y.1, matN_m y.2 (by omega)⟩ c41⟩
          | (obtain rfl : i = n := by omega
             exact Iff.rfl)
      · try simp (disch := omega) only [nI_ltI, nI_leI, nI_eq, bI_0, Decidable.not_not, lc_lt, lc_gt, lc_ge, lc_le, lc_eq, i64_toInt] at c37
        try simp (disch := omega) only [cv_lt, cv_le, cv_eq, nI_toInt, cv_0] at c37
        first
        | omega
        | refine r_iload3 hR dX8_isName_40 ?_
          refine r_if_eq hR 82 dX8_isName_41 (by decide) (fun c41 => ?_) (fun c41 => ?_)
          · try simp (disch := omega) only [nI_ltI, nI_leI, nI_eq, bI_0, Decidable.not_not, lc_lt, lc_gt, lc_ge, lc_le, lc_eq, i64_toInt] at c41
            try simp (disch := omega) only [cv_lt, cv_le, cv_eq, nI_toInt, cv_0] at c41
            first
            | omega
            | refine r_iload3 hR dX8_isName_82 ?_
              refine r_zret hR dX8_isName_83 bI_n ?_
              refine ⟨congrArg (fun y => some (Value.int y)) (bI_c ?_), rfl⟩
              rw [wIs_i]
              first
              | exact ⟨fun y => absurd y c41, fun y => absurd ⟨y.1, matN_m y.2 (by omega)⟩ c41⟩
              | (obtain rfl : i = n := by omega
                 exact Iff.rfl)
          · try simp (disch := omega) only [nI_ltI, nI_leI, nI_eq, bI_0, Decidable.not_not, lc_lt, lc_gt, lc_ge, lc_le, lc_eq, i64_toInt] at c41
            try simp (disch := omega) only [cv_lt, cv_le, cv_eq, nI_toInt, cv_0] at c41
            first
            | omega
            | have hi7 : i < 7 := by omega
              have hTi := hT (b + i)
              obtain ⟨e7, b7⟩ := nm_t w hw i hi7
              refine r_gets hR 3 (by decide) sl_X8_149 dX8_isName_44 ?_
              refine r_bipush hR (nI 7) (by decide) dX8_isName_47 ?_
              refine r_iload1 hR dX8_isName_49 ?_
              refine r_imul hR dX8_isName_50 ?_
              try rw [pk_mul]
              refine r_iload4 hR dX8_isName_51 ?_
              refine r_iadd hR dX8_isName_53 ?_
              try rw [nI_add]
              refine r_tald hR (by decide) rfl (show _ < 84 by omega) (by decide) dX8_isName_54 ?_
              rw [e7]
              refine r_aload0 hR dX8_isName_55 ?_
              refine r_get hR (by first | decide | assumption | (simp only [gcnt_4, gcnt_1, gcnt_2, gcnt_3, gcnt_12, gcnt_13, gcnt_16]; omega)) fl_X8_28 rfl rfl dX8_isName_56 ?_
              refine r_aload0 hR dX8_isName_59 ?_
              refine r_get hR (by first | decide | assumption | (simp only [gcnt_4, gcnt_1, gcnt_2, gcnt_3, gcnt_12, gcnt_13, gcnt_16]; omega)) fl_X8_152 rfl rfl dX8_isName_60 ?_
              rw [hb]
              refine r_iload4 hR dX8_isName_63 ?_
              refine r_iadd hR dX8_isName_65 ?_
              try rw [nI_add]
              refine r_iald hR (by first | decide | assumption | (simp only [gcnt_4, gcnt_1, gcnt_2, gcnt_3, gcnt_12, gcnt_13, gcnt_16]; omega)) rfl rfl (by omega) (by decide) dX8_isName_66 ?_
              rw [ht (b + i) (by omega)]
              refine r_icmp_ne hR 74 dX8_isName_67 (by decide) (fun c67 => ?_) (fun c67 => ?_)
              · try simp (disch := omega) only [nI_ltI, nI_leI, nI_eq, bI_0, Decidable.not_not, lc_lt, lc_gt, lc_ge, lc_le, lc_eq, i64_toInt] at c67
                try simp (disch := omega) only [cv_lt, cv_le, cv_eq, nI_toInt, cv_0] at c67
                first
                | omega
                | refine r_iconst hR (nI 0) (by decide) dX8_isName_74 ?_
                  omega
              · try simp (disch := omega) only [nI_ltI, nI_leI, nI_eq, bI_0, Decidable.not_not, lc_lt, lc_gt, lc_ge, lc_le, lc_eq, i64_toInt] at c67
                try simp (disch := omega) only [cv_lt, cv_le, cv_eq, nI_toInt, cv_0] at c67
                first
                | omega
                | refine r_iconst hR (nI 1) (by decide) dX8_isName_70 ?_
                  refine r_goto hR 75 dX8_isName_71 (by decide) ?_
                  omega
    | succ j ih =>
      intro i  hij 
      refine r_iload4 hR dX8_isName_34 ?_
      refine r_iload2 hR dX8_isName_36 ?_
      refine r_icmp_ge hR 82 dX8_isName_37 (by decide) (fun c37 => ?_) (fun c37 => ?_)
      · try simp (disch := omega) only [nI_ltI, nI_leI, nI_eq, bI_0, Decidable.not_not, lc_lt, lc_gt, lc_ge, lc_le, lc_eq, i64_toInt] at c37
        try simp (disch := omega) only [cv_lt, cv_le, cv_eq, nI_toInt, cv_0] at c37
        first
        | omega
        | refine r_iload3 hR dX8_isName_82 ?_
          refine r_zret hR dX8_isName_83 bI_n ?_
          refine ⟨congrArg (fun y => some (Value.int y)) (bI_c ?_), rfl⟩
          rw [wIs_i]
          first
          | exact ⟨fun y => absurd y c41, fun y => absurd ⟨y.1, matN_m y.2 (by omega)⟩ c41⟩
          | (obtain rfl : i = n := by omega
             exact Iff.rfl)
      · try simp (disch := omega) only [nI_ltI, nI_leI, nI_eq, bI_0, Decidable.not_not, lc_lt, lc_gt, lc_ge, lc_le, lc_eq, i64_toInt] at c37
        try simp (disch := omega) only [cv_lt, cv_le, cv_eq, nI_toInt, cv_0] at c37
        first
        | omega
        | refine r_iload3 hR dX8_isName_40 ?_
          refine r_if_eq hR 82 dX8_isName_41 (by decide) (fun c41 => ?_) (fun c41 => ?_)
          · try simp (disch := omega) only [nI_ltI, nI_leI, nI_eq, bI_0, Decidable.not_not, lc_lt, lc_gt, lc_ge, lc_le, lc_eq, i64_toInt] at c41
            try simp (disch := omega) only [cv_lt, cv_le, cv_eq, nI_toInt, cv_0] at c41
            first
            | omega
            | refine r_iload3 hR dX8_isName_82 ?_
              refine r_zret hR dX8_isName_83 bI_n ?_
              refine ⟨congrArg (fun y => some (Value.int y)) (bI_c ?_), rfl⟩
              rw [wIs_i]
              first
              | exact ⟨fun y => absurd y c41, fun y => absurd ⟨y.1, matN_m y.2 (by omega)⟩ c41⟩
              | (obtain rfl : i = n := by omega
                 exact Iff.rfl)
          · try simp (disch := omega) only [nI_ltI, nI_leI, nI_eq, bI_0, Decidable.not_not, lc_lt, lc_gt, lc_ge, lc_le, lc_eq, i64_toInt] at c41
            try simp (disch := omega) only [cv_lt, cv_le, cv_eq, nI_toInt, cv_0] at c41
            first
            | omega
            | have hi7 : i < 7 := by omega
              have hTi := hT (b + i)
              obtain ⟨e7, b7⟩ := nm_t w hw i hi7
              have J75 : P 75 [some (.ref (ad G 15 0)), some (.int (nI w)), some (.int (nI n)), some (.int (bI ((n ≤ 7 ∧ (n = 7 ∨ nm w n = 0)) ∧ matN T b w i = true))), some (.int (nI i))] [.int (bI (nm w i = T (b + i)))] M := by
                refine r_istore3 hR (fun _ h => by first | (cases h; rfl) | exact absurd h (by simp)) dX8_isName_75 ?_
                refine r_iinc4 hR (nI 1) (by decide) (fun _ h => by first | (cases h; rfl) | exact absurd h (by simp)) dX8_isName_76 ?_
                try rw [nI_add]
                refine r_goto hR 34 dX8_isName_79 (by decide) ?_
                have es : ((n ≤ 7 ∧ (n = 7 ∨ nm w n = 0)) ∧ matN T b w (i + 1) = true) ↔ (nm w i = T (b + i)) := by
                  rw [matN_s]
                  exact ⟨fun y => y.2.2, fun y => ⟨c41.1, c41.2, y⟩⟩
                have ih2 := ih (i + 1) (by omega)
                rw [bI_c es] at ih2
                exact ih2
              refine r_gets hR 3 (by decide) sl_X8_149 dX8_isName_44 ?_
              refine r_bipush hR (nI 7) (by decide) dX8_isName_47 ?_
              refine r_iload1 hR dX8_isName_49 ?_
              refine r_imul hR dX8_isName_50 ?_
              try rw [pk_mul]
              refine r_iload4 hR dX8_isName_51 ?_
              refine r_iadd hR dX8_isName_53 ?_
              try rw [nI_add]
              refine r_tald hR (by decide) rfl (show _ < 84 by omega) (by decide) dX8_isName_54 ?_
              rw [e7]
              refine r_aload0 hR dX8_isName_55 ?_
              refine r_get hR (by first | decide | assumption | (simp only [gcnt_4, gcnt_1, gcnt_2, gcnt_3, gcnt_12, gcnt_13, gcnt_16]; omega)) fl_X8_28 rfl rfl dX8_isName_56 ?_
              refine r_aload0 hR dX8_isName_59 ?_
              refine r_get hR (by first | decide | assumption | (simp only [gcnt_4, gcnt_1, gcnt_2, gcnt_3, gcnt_12, gcnt_13, gcnt_16]; omega)) fl_X8_152 rfl rfl dX8_isName_60 ?_
              rw [hb]
              refine r_iload4 hR dX8_isName_63 ?_
              refine r_iadd hR dX8_isName_65 ?_
              try rw [nI_add]
              refine r_iald hR (by first | decide | assumption | (simp only [gcnt_4, gcnt_1, gcnt_2, gcnt_3, gcnt_12, gcnt_13, gcnt_16]; omega)) rfl rfl (by omega) (by decide) dX8_isName_66 ?_
              rw [ht (b + i) (by omega)]
              refine r_icmp_ne hR 74 dX8_isName_67 (by decide) (fun c67 => ?_) (fun c67 => ?_)
              · try simp (disch := omega) only [nI_ltI, nI_leI, nI_eq, bI_0, Decidable.not_not, lc_lt, lc_gt, lc_ge, lc_le, lc_eq, i64_toInt] at c67
                try simp (disch := omega) only [cv_lt, cv_le, cv_eq, nI_toInt, cv_0] at c67
                first
                | omega
                | refine r_iconst hR (nI 0) (by decide) dX8_isName_74 ?_
                  refine r_nm (bI (nm w i = T (b + i))) ?_ J75
                  first
                  | exact (bI_t (by omega)).symm
                  | exact (bI_f (by omega)).symm
              · try simp (disch := omega) only [nI_ltI, nI_leI, nI_eq, bI_0, Decidable.not_not, lc_lt, lc_gt, lc_ge, lc_le, lc_eq, i64_toInt] at c67
                try simp (disch := omega) only [cv_lt, cv_le, cv_eq, nI_toInt, cv_0] at c67
                first
                | omega
                | refine r_iconst hR (nI 1) (by decide) dX8_isName_70 ?_
                  refine r_goto hR 75 dX8_isName_71 (by decide) ?_
                  refine r_nm (bI (nm w i = T (b + i))) ?_ J75
                  first
                  | exact (bI_t (by omega)).symm
                  | exact (bI_f (by omega)).symm
  have J30 : P 30 [some (.ref (ad G 15 0)), some (.int (nI w)), some (.int (nI n)), none, none] [.int (bI (n ≤ 7 ∧ (n = 7 ∨ nm w n = 0)))] M := by
    refine r_istore3 hR (fun _ h => by first | (cases h; rfl) | exact absurd h (by simp)) dX8_isName_30 ?_
    refine r_iconst hR (nI 0) (by decide) dX8_isName_31 ?_
    refine r_istore4 hR (fun _ h => by first | (cases h; rfl) | exact absurd h (by simp)) dX8_isName_32 ?_
    have es : ((n ≤ 7 ∧ (n = 7 ∨ nm w n = 0)) ∧ matN T b w 0 = true) ↔ (n ≤ 7 ∧ (n = 7 ∨ nm w n = 0)) := ⟨fun y => y.1, fun y => ⟨y, rfl⟩⟩
    have L0 := L n 0 (by omega)
    rw [bI_c es] at L0
    exact L0
  refine r_iload2 hR dX8_isName_0 ?_
  refine r_bipush hR (nI 7) (by decide) dX8_isName_1 ?_
  refine r_icmp_gt hR 29 dX8_isName_3 (by decide) (fun c3 => ?_) (fun c3 => ?_)
  · try simp (disch := omega) only [nI_ltI, nI_leI, nI_eq, bI_0, Decidable.not_not, lc_lt, lc_gt, lc_ge, lc_le, lc_eq, i64_toInt] at c3
    try simp (disch := omega) only [cv_lt, cv_le, cv_eq, nI_toInt, cv_0] at c3
    first
    | omega
    | refine r_iconst hR (nI 0) (by decide) dX8_isName_29 ?_
      refine r_nm (bI (n ≤ 7 ∧ (n = 7 ∨ nm w n = 0))) ?_ J30
      first
      | exact (bI_t (by omega)).symm
      | exact (bI_f (by omega)).symm
  · try simp (disch := omega) only [nI_ltI, nI_leI, nI_eq, bI_0, Decidable.not_not, lc_lt, lc_gt, lc_ge, lc_le, lc_eq, i64_toInt] at c3
    try simp (disch := omega) only [cv_lt, cv_le, cv_eq, nI_toInt, cv_0] at c3
    first
    | omega
    | refine r_iload2 hR dX8_isName_6 ?_
      refine r_bipush hR (nI 7) (by decide) dX8_isName_7 ?_
      refine r_icmp_eq hR 25 dX8_isName_9 (by decide) (fun c9 => ?_) (fun c9 => ?_)
      · try simp (disch := omega) only [nI_ltI, nI_leI, nI_eq, bI_0, Decidable.not_not, lc_lt, lc_gt, lc_ge, lc_le, lc_eq, i64_toInt] at c9
        try simp (disch := omega) only [cv_lt, cv_le, cv_eq, nI_toInt, cv_0] at c9
        first
        | omega
        | refine r_iconst hR (nI 1) (by decide) dX8_isName_25 ?_
          refine r_goto hR 30 dX8_isName_26 (by decide) ?_
          refine r_nm (bI (n ≤ 7 ∧ (n = 7 ∨ nm w n = 0))) ?_ J30
          first
          | exact (bI_t (by omega)).symm
          | exact (bI_f (by omega)).symm
      · try simp (disch := omega) only [nI_ltI, nI_leI, nI_eq, bI_0, Decidable.not_not, lc_lt, lc_gt, lc_ge, lc_le, lc_eq, i64_toInt] at c9
        try simp (disch := omega) only [cv_lt, cv_le, cv_eq, nI_toInt, cv_0] at c9
        first
        | omega
        | obtain ⟨e7, b7⟩ := nm_t w hw n (by omega)
          refine r_gets hR 3 (by decide) sl_X8_149 dX8_isName_12 ?_
          refine r_bipush hR (nI 7) (by decide) dX8_isName_15 ?_
          refine r_iload1 hR dX8_isName_17 ?_
          refine r_imul hR dX8_isName_18 ?_
          try rw [pk_mul]
          refine r_iload2 hR dX8_isName_19 ?_
          refine r_iadd hR dX8_isName_20 ?_
          try rw [nI_add]
          refine r_tald hR (by decide) rfl (show _ < 84 by omega) (by decide) dX8_isName_21 ?_
          rw [e7]
          refine r_if_ne hR 29 dX8_isName_22 (by decide) (fun c22 => ?_) (fun c22 => ?_)
          · try simp (disch := omega) only [nI_ltI, nI_leI, nI_eq, bI_0, Decidable.not_not, lc_lt, lc_gt, lc_ge, lc_le, lc_eq, i64_toInt] at c22
            try simp (disch := omega) only [cv_lt, cv_le, cv_eq, nI_toInt, cv_0] at c22
            first
            | omega
            | refine r_iconst hR (nI 0) (by decide) dX8_isName_29 ?_
              refine r_nm (bI (n ≤ 7 ∧ (n = 7 ∨ nm w n = 0))) ?_ J30
              first
              | exact (bI_t (by omega)).symm
              | exact (bI_f (by omega)).symm
          · try simp (disch := omega) only [nI_ltI, nI_leI, nI_eq, bI_0, Decidable.not_not, lc_lt, lc_gt, lc_ge, lc_le, lc_eq, i64_toInt] at c22
            try simp (disch := omega) only [cv_lt, cv_le, cv_eq, nI_toInt, cv_0] at c22
            first
            | omega
            | refine r_iconst hR (nI 1) (by decide) dX8_isName_25 ?_
              refine r_goto hR 30 dX8_isName_26 (by decide) ?_
              refine r_nm (bI (n ≤ 7 ∧ (n = 7 ∨ nm w n = 0))) ?_ J30
              first
              | exact (bI_t (by omega)).symm
              | exact (bI_f (by omega)).symm

set_option maxHeartbeats 4000000 in
set_option maxRecDepth 100000 in
theorem t_X8_wordHere {G : gG} {M : gM} {T : Nat → Nat} {l : Nat} (h : tapP M T l) {b e : Nat} (hb : M.1 15 0 10 = nI b) (he : M.1 15 0 11 = nI e) (hbe : b ≤ e) (hel : e ≤ l) : Cf G mX8_wordHere 1 [.ref (ad G 15 0)] M (some (.int (nI (wordOf T b (e - b))))) M := by
  obtain ⟨hl, ht, hl2, hT⟩ := id h
  refine Ct.of (by decide +kernel) (k := 1) (ls0 := [some (.ref (ad G 15 0)), none]) rfl rfl (fun _ _ => trivial) ?_
  intro P hR
  have L : ∀ (j i : Nat), i + j = 12 → firstN (wIs T b (e - b)) j i = firstN (wIs T b (e - b)) 12 0 → P 2 [some (.ref (ad G 15 0)), some (.int (nI i))] [] M := by
    intro j
    induction j with
    | zero =>
      intro i  hij hf
      refine r_iload1 hR dX8_wordHere_2 ?_
      refine r_bipush hR (nI 12) (by decide) dX8_wordHere_3 ?_
      refine r_icmp_ge hR 31 dX8_wordHere_5 (by decide) (fun c5 => ?_) (fun c5 => ?_)
      · try simp (disch := omega) only [nI_ltI, nI_leI, nI_eq, bI_0, Decidable.not_not, lc_lt, lc_gt, lc_ge, lc_le, lc_eq, i64_toInt] at c5
        try simp (disch := omega) only [cv_lt, cv_le, cv_eq, nI_toInt, cv_0] at c5
        first
        | omega
        | refine r_iload1 hR dX8_wordHere_31 ?_
          refine r_bipush hR (nI 12) (by decide) dX8_wordHere_32 ?_
          refine r_icmp_ge hR 41 dX8_wordHere_34 (by decide) (fun c34 => ?_) (fun c34 => ?_)
          · try simp (disch := omega) only [nI_ltI, nI_leI, nI_eq, bI_0, Decidable.not_not, lc_lt, lc_gt, lc_ge, lc_le, lc_eq, i64_toInt] at c34
            try simp (disch := omega) only [cv_lt, cv_le, cv_eq, nI_toInt, cv_0] at c34
            first
            | omega
            | refine r_bipush hR (nI 23) (by decide) dX8_wordHere_41 ?_
              refine r_iret hR dX8_wordHere_43 ?_
              first
              | omega
              | (obtain rfl : i = 12 := by omega
                 refine ⟨congrArg (fun z => some (Value.int (nI z))) ?_, rfl⟩
                 unfold wordOf
                 rw [← hf]
                 exact (if_pos rfl).symm)
          · try simp (disch := omega) only [nI_ltI, nI_leI, nI_eq, bI_0, Decidable.not_not, lc_lt, lc_gt, lc_ge, lc_le, lc_eq, i64_toInt] at c34
            try simp (disch := omega) only [cv_lt, cv_le, cv_eq, nI_toInt, cv_0] at c34
            first
            | omega
            | refine r_iload1 hR dX8_wordHere_37 ?_
              refine r_goto hR 43 dX8_wordHere_38 (by decide) ?_
              refine r_iret hR dX8_wordHere_43 ?_
              first
              | omega
              | (obtain rfl : i = 12 := by omega
                 refine ⟨congrArg (fun z => some (Value.int (nI z))) ?_, rfl⟩
                 unfold wordOf
                 rw [← hf]
                 exact (if_pos rfl).symm)
      · try simp (disch := omega) only [nI_ltI, nI_leI, nI_eq, bI_0, Decidable.not_not, lc_lt, lc_gt, lc_ge, lc_le, lc_eq, i64_toInt] at c5
        try simp (disch := omega) only [cv_lt, cv_le, cv_eq, nI_toInt, cv_0] at c5
        first
        | omega
        | refine r_aload0 hR dX8_wordHere_8 ?_
          refine r_iload1 hR dX8_wordHere_9 ?_
          refine r_aload0 hR dX8_wordHere_10 ?_
          refine r_get hR (by first | decide | assumption | (simp only [gcnt_4, gcnt_1, gcnt_2, gcnt_3, gcnt_12, gcnt_13, gcnt_16]; omega)) fl_X8_155 rfl rfl dX8_wordHere_11 ?_
          rw [he]
          refine r_aload0 hR dX8_wordHere_14 ?_
          refine r_get hR (by first | decide | assumption | (simp only [gcnt_4, gcnt_1, gcnt_2, gcnt_3, gcnt_12, gcnt_13, gcnt_16]; omega)) fl_X8_152 rfl rfl dX8_wordHere_15 ?_
          rw [hb]
          refine r_isubN hR hbe dX8_wordHere_18 ?_
          refine r_cv2v hR kv_X8_158 (by decide) (t_X8_isName h hb (by omega) (by omega)) (by first | decide | assumption | (simp only [gcnt_4, gcnt_1, gcnt_2, gcnt_3, gcnt_12, gcnt_13, gcnt_16]; omega)) rfl rfl (Nat.le_of_ble_eq_true rfl) dX8_wordHere_19 ?_
          refine r_if_ne hR 31 dX8_wordHere_22 (by decide) (fun c22 => ?_) (fun c22 => ?_)
          · try simp (disch := omega) only [nI_ltI, nI_leI, nI_eq, bI_0, Decidable.not_not, lc_lt, lc_gt, lc_ge, lc_le, lc_eq, i64_toInt] at c22
            try simp (disch := omega) only [cv_lt, cv_le, cv_eq, nI_toInt, cv_0] at c22
            first
            | omega
            | refine r_iload1 hR dX8_wordHere_31 ?_
              refine r_bipush hR (nI 12) (by decide) dX8_wordHere_32 ?_
              refine r_icmp_ge hR 41 dX8_wordHere_34 (by decide) (fun c34 => ?_) (fun c34 => ?_)
              · try simp (disch := omega) only [nI_ltI, nI_leI, nI_eq, bI_0, Decidable.not_not, lc_lt, lc_gt, lc_ge, lc_le, lc_eq, i64_toInt] at c34
                try simp (disch := omega) only [cv_lt, cv_le, cv_eq, nI_toInt, cv_0] at c34
                first
                | omega
                | refine r_bipush hR (nI 23) (by decide) dX8_wordHere_41 ?_
                  refine r_iret hR dX8_wordHere_43 ?_
                  first
                  | omega
                  | (obtain rfl : i = 12 := by omega
                     refine ⟨congrArg (fun z => some (Value.int (nI z))) ?_, rfl⟩
                     unfold wordOf
                     rw [← hf]
                     exact (if_pos rfl).symm)
              · try simp (disch := omega) only [nI_ltI, nI_leI, nI_eq, bI_0, Decidable.not_not, lc_lt, lc_gt, lc_ge, lc_le, lc_eq, i64_toInt] at c34
                try simp (disch := omega) only [cv_lt, cv_le, cv_eq, nI_toInt, cv_0] at c34
                first
                | omega
                | refine r_iload1 hR dX8_wordHere_37 ?_
                  refine r_goto hR 43 dX8_wordHere_38 (by decide) ?_
                  refine r_iret hR dX8_wordHere_43 ?_
                  first
                  | omega
                  | (obtain rfl : i = 12 := by omega
                     refine ⟨congrArg (fun z => some (Value.int (nI z))) ?_, rfl⟩
                     unfold wordOf
                     rw [← hf]
                     exact (if_pos rfl).symm)
          · try simp (disch := omega) only [nI_ltI, nI_leI, nI_eq, bI_0, Decidable.not_not, lc_lt, lc_gt, lc_ge, lc_le, lc_eq, i64_toInt] at c22
            try simp (disch := omega) only [cv_lt, cv_le, cv_eq, nI_toInt, cv_0] at c22
            first
            | omega
            | refine r_iinc1 hR (nI 1) (by decide) (fun _ h => by first | (cases h; rfl) | exact absurd h (by simp)) dX8_wordHere_25 ?_
              try rw [nI_add]
              refine r_goto hR 2 dX8_wordHere_28 (by decide) ?_
              omega
    | succ j ih =>
      intro i  hij hf
      refine r_iload1 hR dX8_wordHere_2 ?_
      refine r_bipush hR (nI 12) (by decide) dX8_wordHere_3 ?_
      refine r_icmp_ge hR 31 dX8_wordHere_5 (by decide) (fun c5 => ?_) (fun c5 => ?_)
      · try simp (disch := omega) only [nI_ltI, nI_leI, nI_eq, bI_0, Decidable.not_not, lc_lt, lc_gt, lc_ge, lc_le, lc_eq, i64_toInt] at c5
        try simp (disch := omega) only [cv_lt, cv_le, cv_eq, nI_toInt, cv_0] at c5
        first
        | omega
        | refine r_iload1 hR dX8_wordHere_31 ?_
          refine r_bipush hR (nI 12) (by decide) dX8_wordHere_32 ?_
          refine r_icmp_ge hR 41 dX8_wordHere_34 (by decide) (fun c34 => ?_) (fun c34 => ?_)
          · try simp (disch := omega) only [nI_ltI, nI_leI, nI_eq, bI_0, Decidable.not_not, lc_lt, lc_gt, lc_ge, lc_le, lc_eq, i64_toInt] at c34
            try simp (disch := omega) only [cv_lt, cv_le, cv_eq, nI_toInt, cv_0] at c34
            first
            | omega
            | refine r_bipush hR (nI 23) (by decide) dX8_wordHere_41 ?_
              refine r_iret hR dX8_wordHere_43 ?_
              first
              | omega
              | (have ef : firstN (wIs T b (e - b)) (j + 1) i = i := by
                   unfold firstN
                   rw [if_pos c22]
                 refine ⟨congrArg (fun z => some (Value.int (nI z))) ?_, rfl⟩
                 unfold wordOf
                 rw [← hf, ef, if_neg (by omega)])
          · try simp (disch := omega) only [nI_ltI, nI_leI, nI_eq, bI_0, Decidable.not_not, lc_lt, lc_gt, lc_ge, lc_le, lc_eq, i64_toInt] at c34
            try simp (disch := omega) only [cv_lt, cv_le, cv_eq, nI_toInt, cv_0] at c34
            first
            | omega
            | refine r_iload1 hR dX8_wordHere_37 ?_
              refine r_goto hR 43 dX8_wordHere_38 (by decide) ?_
              refine r_iret hR dX8_wordHere_43 ?_
              first
              | omega
              | (have ef : firstN (wIs T b (e - b)) (j + 1) i = i := by
                   unfold firstN
                   rw [if_pos c22]
                 refine ⟨congrArg (fun z => some (Value.int (nI z))) ?_, rfl⟩
                 unfold wordOf
                 rw [← hf, ef, if_neg (by omega)])
      · try simp (disch := omega) only [nI_ltI, nI_leI, nI_eq, bI_0, Decidable.not_not, lc_lt, lc_gt, lc_ge, lc_le, lc_eq, i64_toInt] at c5
        try simp (disch := omega) only [cv_lt, cv_le, cv_eq, nI_toInt, cv_0] at c5
        first
        | omega
        | refine r_aload0 hR dX8_wordHere_8 ?_
          refine r_iload1 hR dX8_wordHere_9 ?_
          refine r_aload0 hR dX8_wordHere_10 ?_
          refine r_get hR (by first | decide | assumption | (simp only [gcnt_4, gcnt_1, gcnt_2, gcnt_3, gcnt_12, gcnt_13, gcnt_16]; omega)) fl_X8_155 rfl rfl dX8_wordHere_11 ?_
          rw [he]
          refine r_aload0 hR dX8_wordHere_14 ?_
          refine r_get hR (by first | decide | assumption | (simp only [gcnt_4, gcnt_1, gcnt_2, gcnt_3, gcnt_12, gcnt_13, gcnt_16]; omega)) fl_X8_152 rfl rfl dX8_wordHere_15 ?_
          rw [hb]
          refine r_isubN hR hbe dX8_wordHere_18 ?_
          refine r_cv2v hR kv_X8_158 (by decide) (t_X8_isName h hb (by omega) (by omega)) (by first | decide | assumption | (simp only [gcnt_4, gcnt_1, gcnt_2, gcnt_3, gcnt_12, gcnt_13, gcnt_16]; omega)) rfl rfl (Nat.le_of_ble_eq_true rfl) dX8_wordHere_19 ?_
          refine r_if_ne hR 31 dX8_wordHere_22 (by decide) (fun c22 => ?_) (fun c22 => ?_)
          · try simp (disch := omega) only [nI_ltI, nI_leI, nI_eq, bI_0, Decidable.not_not, lc_lt, lc_gt, lc_ge, lc_le, lc_eq, i64_toInt] at c22
            try simp (disch := omega) only [cv_lt, cv_le, cv_eq, nI_toInt, cv_0] at c22
            first
            | omega
            | refine r_iload1 hR dX8_wordHere_31 ?_
              refine r_bipush hR (nI 12) (by decide) dX8_wordHere_32 ?_
              refine r_icmp_ge hR 41 dX8_wordHere_34 (by decide) (fun c34 => ?_) (fun c34 => ?_)
              · try simp (disch := omega) only [nI_ltI, nI_leI, nI_eq, bI_0, Decidable.not_not, lc_lt, lc_gt, lc_ge, lc_le, lc_eq, i64_toInt] at c34
                try simp (disch := omega) only [cv_lt, cv_le, cv_eq, nI_toInt, cv_0] at c34
                first
                | omega
                | refine r_bipush hR (nI 23) (by decide) dX8_wordHere_41 ?_
                  refine r_iret hR dX8_wordHere_43 ?_
                  first
                  | omega
                  | (have ef : firstN (wIs T b (e - b)) (j + 1) i = i := by
                       unfold firstN
                       rw [if_pos c22]
                     refine ⟨congrArg (fun z => some (Value.int (nI z))) ?_, rfl⟩
                     unfold wordOf
                     rw [← hf, ef, if_neg (by omega)])
              · try simp (disch := omega) only [nI_ltI, nI_leI, nI_eq, bI_0, Decidable.not_not, lc_lt, lc_gt, lc_ge, lc_le, lc_eq, i64_toInt] at c34
                try simp (disch := omega) only [cv_lt, cv_le, cv_eq, nI_toInt, cv_0] at c34
                first
                | omega
                | refine r_iload1 hR dX8_wordHere_37 ?_
                  refine r_goto hR 43 dX8_wordHere_38 (by decide) ?_
                  refine r_iret hR dX8_wordHere_43 ?_
                  first
                  | omega
                  | (have ef : firstN (wIs T b (e - b)) (j + 1) i = i := by
                       unfold firstN
                       rw [if_pos c22]
                     refine ⟨congrArg (fun z => some (Value.int (nI z))) ?_, rfl⟩
                     unfold wordOf
                     rw [← hf, ef, if_neg (by omega)])
          · try simp (disch := omega) only [nI_ltI, nI_leI, nI_eq, bI_0, Decidable.not_not, lc_lt, lc_gt, lc_ge, lc_le, lc_eq, i64_toInt] at c22
            try simp (disch := omega) only [cv_lt, cv_le, cv_eq, nI_toInt, cv_0] at c22
            first
            | omega
            | refine r_iinc1 hR (nI 1) (by decide) (fun _ h => by first | (cases h; rfl) | exact absurd h (by simp)) dX8_wordHere_25 ?_
              try rw [nI_add]
              refine r_goto hR 2 dX8_wordHere_28 (by decide) ?_
              have ef : firstN (wIs T b (e - b)) (j + 1) i = firstN (wIs T b (e - b)) j (i + 1) := by
                conv => lhs; unfold firstN
                rw [if_neg c22]
              exact ih (i + 1) (by omega) (by rw [← ef]; exact hf)
  refine r_iconst hR (nI 0) (by decide) dX8_wordHere_0 ?_
  refine r_istore1 hR (fun _ h => by first | (cases h; rfl) | exact absurd h (by simp)) dX8_wordHere_1 ?_
  exact L 12 0 rfl rfl

