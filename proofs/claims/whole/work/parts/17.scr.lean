/-! SCRATCH: trial, walker, second, ways, pick; two memories that differ there alone -/
def scr (r i : Nat) : Prop := (r = 1 ∧ i = 1) ∨ (r = 2 ∧ i = 1) ∨ (r = 4 ∧ 8 ≤ i ∧ (i < 16 ∨ 24 ≤ i)) ∨ r = 6 ∨ r = 7
def eqX (M M' : gM) : Prop := (∀ r i, ¬ scr r i → M'.1 r i = M.1 r i) ∧ M'.2 = M.2
theorem eqX.rf (M : gM) : eqX M M := ⟨fun _ _ _ => rfl, rfl⟩
theorem eqX.tr {M N L : gM} (h : eqX M N) (g : eqX N L) : eqX M L := ⟨fun r i z => (g.1 r i z).trans (h.1 r i z), g.2.trans h.2⟩
theorem eqX_seti (M : gM) {r i k : Nat} {x : Int32} (h : scr r i) : eqX M (seti M r i k x) := ⟨fun r' i' z => (seti_o M r i k x r' i' (fun e => z (by rw [e.1, e.2]; exact h))).1, rfl⟩
theorem eqX_put1 (M : gM) (S : Nat → Nat) {n : Nat} (h : n ≤ 8) : eqX M (putSn M 1 S n) := ⟨fun r i z => by
  funext k
  refine putSn_far M 1 S ?_ ?_ ?_ k <;> (intro e; apply z; unfold scr; omega), rfl⟩
theorem eqX_putR (M : gM) {i : Nat} (K : Nat → Nat) (n : Nat) : eqX M (putR M 6 i K n) := ⟨fun r' i' z => by
  funext k
  exact putR_far M K n (fun e => z (by unfold scr; omega)) k, rfl⟩
theorem eqX.keepM {M M' : gM} (h : eqX M M') : keepM M M' := fun r hr => ⟨by funext i; exact h.1 r i (by unfold scr; omega), by rw [h.2]⟩
theorem seaP_eqX {M M' : gM} {S : Nat → Nat} (h : eqX M M') (h3 : S 3 ≤ 8) (c : seaP M 0 S) : seaP M' 0 S := by
  obtain ⟨a, b, c, d, e, f⟩ := c
  have e1 := h.1 1 0 (by unfold scr; omega)
  have e2 := h.1 2 0 (by unfold scr; omega)
  refine ⟨by rw [e1]; exact a, by rw [e1]; exact b, by rw [e1]; exact c, by rw [e1]; exact d, fun x hx => by rw [e2]; exact e x hx, fun t ht w hw => by rw [h.1 4 (8 * 0 + t) (by unfold scr; omega)]; exact f t ht w hw⟩
theorem clsP_eqX {M M' : gM} {A : gA} (h : eqX M M') (h3 : aS A 3 ≤ 8) (hK : ak A = 1 → aK A 3 ≤ 8) (c : clsP M A) : clsP M' A := by
  obtain ⟨c1, c2, c3, c4, c5, c6, c7⟩ := c
  refine ⟨seaP_eqX h h3 c1, fun z => ?_, ?_, ?_, ?_, ?_, ?_⟩
  · obtain ⟨a, b, c, d, e, f⟩ := c2 z
    have e1 := h.1 1 2 (by unfold scr; omega)
    have e2 := h.1 2 2 (by unfold scr; omega)
    have k8 := hK z
    exact ⟨by rw [e1]; exact a, by rw [e1]; exact b, by rw [e1]; exact c, by rw [e1]; exact d, fun x hx => by rw [e2]; exact e x hx, fun t ht w hw => by rw [h.1 4 (8 * 2 + t) (by unfold scr; omega)]; exact f t ht w hw⟩
  · rw [h.1 0 0 (by unfold scr; omega)]; exact c3
  · rw [h.1 8 0 (by unfold scr; omega)]; exact c4
  · intro j hj; rw [h.1 9 0 (by unfold scr; omega)]; exact c5 j hj
  · intro s hs; rw [h.1 12 s (by unfold scr; omega), h.2]; exact c6 s hs
  · intro n hn; rw [h.1 14 0 (by unfold scr; omega)]; exact c7 n hn
theorem Qc_eqX {M M' : gM} {A : gA} {R : Rs} {v : Int32} (h : eqX M M') (h3 : aS A 3 ≤ 8) (hK : ak A = 1 → aK A 3 ≤ 8) (c : clsP M A) (hR : R = (v, A)) : Qc M R (some (.int v)) M' := by
  subst hR
  exact ⟨rfl, clsP_eqX h h3 hK c, h.keepM⟩
theorem Qc_fndX {M M' : gM} {A : gA} {n : Nat} {R : Rs} (h : eqX M M') (h3 : aS A 3 ≤ 8) (hK : ak A = 1 → aK A 3 ≤ 8) (c : clsP M A) (hn : n < 7) (hR : R = fnd A n) : Qc M R (some (.int (-1000000001 - nI n))) (seti M' 14 0 n (M'.1 14 0 n + nI 1)) := by
  subst hR
  exact ⟨rfl, clsP_fnd (clsP_eqX h h3 hK c) hn, h.keepM.tr (keepM_seti M' 0 n _ (by omega))⟩
/-! a thing of scratch -/
def putTh (M : gM) (t k c f s : Nat) : gM := seti (seti (seti (seti M 4 t 0 (nI k)) 4 t 1 (nI c)) 4 t 2 (nI f)) 4 t 3 (nI s)
theorem putTh_r (M : gM) (t k c f s r i j : Nat) : (putTh M t k c f s).1 r i j = if r = 4 ∧ i = t ∧ j = 3 then nI s else if r = 4 ∧ i = t ∧ j = 2 then nI f else if r = 4 ∧ i = t ∧ j = 1 then nI c else if r = 4 ∧ i = t ∧ j = 0 then nI k else M.1 r i j := by
  unfold putTh
  rw [seti_r, seti_r, seti_r, seti_r]
theorem putTh_step (M : gM) (t k c f s c' s' : Nat) : seti (seti (putTh M t k c f s) 4 t 3 (nI s')) 4 t 1 (nI c') = putTh M t k c' f s' := by
  refine gM_ext (fun r i j => ?_) rfl
  rw [seti_r, seti_r, putTh_r, putTh_r]
  by_cases z : r = 4 ∧ i = t
  · obtain ⟨rfl, rfl⟩ := z
    by_cases j1 : j = 1
    · subst j1; simp
    · by_cases j3 : j = 3
      · subst j3; simp
      · simp [j1, j3]
  · have hz : ∀ n, ¬ (r = 4 ∧ i = t ∧ j = n) := fun n e => z ⟨e.1, e.2.1⟩
    simp only [if_neg (hz _)]
theorem eqX_putTh (M : gM) {t k c f s : Nat} (h : 24 ≤ t) : eqX M (putTh M t k c f s) := by
  have z : scr 4 t := by unfold scr; omega
  exact (((eqX_seti M z).tr (eqX_seti _ z)).tr (eqX_seti _ z)).tr (eqX_seti _ z)
theorem blow_dayN (n : Nat) (S : Nat → Nat) (d : Nat) : blow (dayN n S) d = blow S d := by
  unfold blow
  have := Nat.mod_lt d (show 0 < 7 by decide)
  rw [dayN_lo (by omega) (by omega), dayN_lo (by omega) (by omega)]
theorem dayN_k {n : Nat} {S : Nat → Nat} {t : Nat} (h : t < S 3) : dayN n S (11 + 4 * t) = S (11 + 4 * t) := by
  induction n with
  | zero => rfl
  | succ n ih => show dayW (dayN n S) _ (11 + 4 * t) = _; rw [dayW_k (by rw [dayN_3]; exact h), ih]
theorem dayN_f {n : Nat} {S : Nat → Nat} {t : Nat} (h : t < S 3) : dayN n S (11 + 4 * t + 2) = S (11 + 4 * t + 2) := by
  induction n with
  | zero => rfl
  | succ n ih => show dayW (dayN n S) _ (11 + 4 * t + 2) = _; rw [dayW_f (by rw [dayN_3]; exact h), ih]
theorem day_c {S : Nat → Nat} {t d : Nat} (h : t < S 3) : thg (dayN (d + 1) S) t 1 = wenN (thg S t 0) (thg S t 2) (S 1) (thg (dayN d S) t 1) (blow S (S 0 + d)) := by
  show dayW (dayN d S) (blow (dayN d S) (dayN d S 0)) (11 + 4 * t + 1) = _
  rw [dayW_c (by rw [dayN_3]; exact h), dayN_k h, dayN_f h, dayN_lo (x := 1) (by omega) (by omega), blow_dayN, dayN_0]
  rfl
theorem day_s {S : Nat → Nat} {t d : Nat} (h : t < S 3) : thg (dayN (d + 1) S) t 3 = sumN (thg (dayN d S) t 3) (earN (thg S t 0) (thg S t 2) (S 1) (S 0 + d) (blow S (S 0 + d))) := by
  show dayW (dayN d S) (blow (dayN d S) (dayN d S 0)) (11 + 4 * t + 3) = _
  rw [dayW_s (by rw [dayN_3]; exact h), dayN_k h, dayN_f h, dayN_lo (x := 1) (by omega) (by omega), blow_dayN, dayN_0]
  rfl
theorem day_b {S : Nat → Nat} {t d : Nat} (hwf : wfS S) (h : t < S 3) : thg (dayN d S) t 1 < 36 ∧ thg (dayN d S) t 3 ≤ 99999 := by
  induction d with
  | zero => exact ⟨(hwf.2.2.2.2.2 t h).2.1, (hwf.2.2.2.2.2 t h).2.2.2⟩
  | succ d ih => rw [day_c h, day_s h]; exact ⟨wen_lt ih.1, sumN_le _ _⟩
/-! seas with one number changed -/
theorem wf_force {S : Nat → Nat} (h : wfS S) {v : Nat} (hv : v ≤ 9) : wfS (va_up S 1 v) := by
  obtain ⟨h0, h1, h2, h3, hr, ht⟩ := h
  refine ⟨by rw [vu_o (by omega)]; exact h0, by rw [vu_s]; exact hv, by rw [vu_o (by omega)]; exact h2, by rw [vu_o (by omega)]; exact h3, fun d hd => by rw [vu_o (by omega)]; exact hr d hd, fun t htt => ?_⟩
  rw [vu_o (by omega)] at htt
  rw [vu_o (by omega), vu_o (by omega), vu_o (by omega), vu_o (by omega)]
  exact ht t htt
theorem wf_sick {S : Nat → Nat} (h : wfS S) {v : Nat} (hv : v < 256) : wfS (va_up S 2 v) := by
  obtain ⟨h0, h1, h2, h3, hr, ht⟩ := h
  refine ⟨by rw [vu_o (by omega)]; exact h0, by rw [vu_o (by omega)]; exact h1, by rw [vu_s]; exact hv, by rw [vu_o (by omega)]; exact h3, fun d hd => by rw [vu_o (by omega)]; exact hr d hd, fun t htt => ?_⟩
  rw [vu_o (by omega)] at htt
  rw [vu_o (by omega), vu_o (by omega), vu_o (by omega), vu_o (by omega)]
  exact ht t htt
theorem wf_rota {S : Nat → Nat} (h : wfS S) {d v : Nat} (hd : d < 7) (hv : v ≤ 8) : wfS (va_up S (4 + d) v) := by
  obtain ⟨h0, h1, h2, h3, hr, ht⟩ := h
  refine ⟨by rw [vu_o (by omega)]; exact h0, by rw [vu_o (by omega)]; exact h1, by rw [vu_o (by omega)]; exact h2, by rw [vu_o (by omega)]; exact h3, fun x hx => ?_, fun t htt => ?_⟩
  · rw [vu_r]; split
    · exact hv
    · exact hr x hx
  · rw [vu_o (by omega)] at htt
    rw [vu_o (by omega), vu_o (by omega), vu_o (by omega), vu_o (by omega)]
    exact ht t htt
theorem wf_th {S : Nat → Nat} (h : wfS S) {t w v : Nat} (ht : t < S 3) (hw : w < 4) (hv : (w = 0 → v ≤ 5) ∧ (w = 1 → v < 36) ∧ (w = 2 → v < 8) ∧ (w = 3 → v ≤ 99999)) : wfS (va_up S (11 + 4 * t + w) v) := by
  obtain ⟨h0, h1, h2, h3, hr, htt⟩ := h
  refine ⟨by rw [vu_o (by omega)]; exact h0, by rw [vu_o (by omega)]; exact h1, by rw [vu_o (by omega)]; exact h2, by rw [vu_o (by omega)]; exact h3, fun x hx => by rw [vu_o (by omega)]; exact hr x hx, fun u hu => ?_⟩
  rw [vu_o (by omega)] at hu
  have := htt u hu
  rw [vu_r, vu_r, vu_r, vu_r]
  refine ⟨?_, ?_, ?_, ?_⟩ <;> split <;> omega
theorem swpS_e {S : Nat → Nat} {a b : Nat} (h : ¬ a = b) : va_up (va_up S (4 + a) (S (4 + b))) (4 + b) (S (4 + a)) = swpS S a b := by
  funext x
  rw [vu_r, vu_r]
  rfl
theorem wf_swp {S : Nat → Nat} (h : wfS S) {a b : Nat} (ha : a < 7) (hb : b < 7) (hab : ¬ a = b) : wfS (swpS S a b) := by
  rw [← swpS_e hab]
  have := wf_rota h (d := a) (v := S (4 + b)) ha (h.2.2.2.2.1 b hb)
  exact wf_rota this hb (h.2.2.2.2.1 a ha)
theorem gain_le {S : Nat → Nat} {n : Nat} (h : wfS S) (hd : S 0 + n < 20000) : gainN n S ≤ 99999 * 8 := by
  have := sumsN_le (wf_dayN h hd)
  unfold gainN
  omega
/-! the pick -/
theorem weigh_ok {M N : gM} {st : Int32 × Nat} {v g : Nat} (h : eqX M N) (h0 : N.1 7 0 0 = st.1) (h1 : N.1 7 0 1 = nI st.2) (hs : st.2 < 2 ^ 30) (hg : g < 2 ^ 30) :
    eqX M (if (nI st.2).toInt < (nI g).toInt then seti (seti N 7 0 0 (nI v)) 7 0 1 (nI g) else N) ∧ (if (nI st.2).toInt < (nI g).toInt then seti (seti N 7 0 0 (nI v)) 7 0 1 (nI g) else N).1 7 0 0 = (upB st v g).1 ∧ (if (nI st.2).toInt < (nI g).toInt then seti (seti N 7 0 0 (nI v)) 7 0 1 (nI g) else N).1 7 0 1 = nI (upB st v g).2 ∧ (upB st v g).2 < 2 ^ 30 := by
  have e1 := nI_toInt (n := st.2) (by omega)
  have e2 := nI_toInt (n := g) (by omega)
  have z : scr 7 0 := by unfold scr; omega
  unfold upB
  by_cases q : st.2 < g
  · rw [if_pos (by rw [e1, e2]; omega), if_pos q]
    exact ⟨h.tr ((eqX_seti N z).tr (eqX_seti _ z)), by simp [seti_r], by simp [seti_r], hg⟩
  · rw [if_neg (by rw [e1, e2]; omega), if_neg q]
    exact ⟨h, h0, h1, hs⟩
/-- what never can be is told by 1000 here, by 99 there -/
def rlC (K1 K2 : Nat → Nat) (B : Nat) : Prop := ∀ c, (K1 c = K2 c ∧ K1 c ≤ B) ∨ (K1 c = 1000 ∧ K2 c = 99)
theorem rlC_low {K1 K2 : Nat → Nat} {B x v : Nat} (h : rlC K1 K2 B) (hv : v ≤ B) (hB : B < 99) : rlC (low K1 x v) (low K2 x v) B := by
  unfold low
  have hx := h x
  by_cases q : v < K1 x
  · rw [if_pos q, if_pos (by omega)]
    intro c
    rw [vu_r, vu_r]
    split
    · exact Or.inl ⟨rfl, hv⟩
    · exact h c
  · rw [if_neg q, if_neg (by omega)]
    exact h
theorem rlC_lowW {N1 N2 K1 K2 : Nat → Nat} {B c kd f fo : Nat} (h : rlC N1 N2 B) (hK : K1 c = K2 c) (hv : K1 c + 1 ≤ B) (hB : B < 99) (n : Nat) : rlC (lowW N1 K1 c kd f fo n) (lowW N2 K2 c kd f fo n) B := by
  induction n with
  | zero => exact h
  | succ n ih => show rlC (low _ _ (K1 c + 1)) (low _ _ (K2 c + 1)) B; rw [← hK]; exact rlC_low ih hv hB
theorem rlC_step {K1 K2 : Nat → Nat} {B kd f fo own : Nat} (h : rlC K1 K2 B) (hB : B + 1 < 99) (n : Nat) : rlC (stepP 1000 K1 kd f fo own n) (stepP 99 K2 kd f fo own n) (B + 1) := by
  induction n with
  | zero => intro c; exact Or.inr ⟨rfl, rfl⟩
  | succ n ih =>
    show rlC (rowC 1000 _ K1 kd f fo own n) (rowC 99 _ K2 kd f fo own n) (B + 1)
    unfold rowC
    rcases h n with ⟨a, b⟩ | ⟨a, b⟩
    · rw [if_pos (by omega), if_pos (by omega), ← a]
      exact rlC_lowW (rlC_low ih (by omega) (by omega)) a (by omega) (by omega) 8
    · rw [if_neg (by omega), if_neg (by omega)]
      exact ih
theorem rlC_ways (S : Nat → Nat) (t n : Nat) (hn : n ≤ 40) : rlC (waysN 1000 S t n) (waysN 99 S t n) n := by
  induction n with
  | zero =>
    intro c
    show (begC 1000 _ c = begC 99 _ c ∧ begC 1000 _ c ≤ 0) ∨ _
    unfold begC
    by_cases q : c = S (11 + 4 * t + 1)
    · rw [if_pos q, if_pos q]; exact Or.inl ⟨rfl, Nat.le_refl 0⟩
    · right
      show (if c = _ then 0 else 1000) = 1000 ∧ (if c = _ then 0 else 99) = 99
      rw [if_neg q, if_neg q]; exact ⟨rfl, rfl⟩
  | succ n ih => exact rlC_step (ih (by omega)) (by omega) 36
theorem ways_le (I : Nat) (S : Nat → Nat) (t n : Nat) : ∀ j, waysN I S t n j ≤ I := by
  cases n with
  | zero => intro j; show begC I _ j ≤ I; unfold begC; split <;> omega
  | succ n => exact stepP_le 36
theorem rlC_lea (S : Nat → Nat) (t c n : Nat) (hn : n ≤ 40) : (leaW 1000 S t c n = leaW 99 S t c n ∧ leaW 1000 S t c n ≤ n) ∨ (leaW 1000 S t c n = 1000 ∧ leaW 99 S t c n = 99) := by
  induction n with
  | zero => exact rlC_ways S t 0 (by omega) c
  | succ n ih =>
    have h := rlC_ways S t (n + 1) hn c
    have ih := ih (by omega)
    unfold leaW
    (repeat' split) <;> omega
theorem rlC_rea (S : Nat → Nat) (t n : Nat) (hn : n ≤ 40) (m : Nat) : reaP 1000 (waysN 1000 S t n) m = reaP 99 (waysN 99 S t n) m := by
  induction m with
  | zero => rfl
  | succ m ih =>
    have h := rlC_ways S t n hn m
    unfold reaP
    rw [ih]
    congr 1
    (repeat' split) <;> omega
theorem first_le (p : Nat → Bool) (k d : Nat) : d ≤ firstN p k d ∧ firstN p k d ≤ d + k := by
  induction k generalizing d with
  | zero => exact ⟨Nat.le_refl d, Nat.le_refl d⟩
  | succ k ih =>
    unfold firstN
    split
    · omega
    · have := ih (d + 1); omega
theorem first_cong {p q : Nat → Bool} (k d : Nat) (h : ∀ i, d ≤ i → i < d + k → p i = q i) : firstN p k d = firstN q k d := by
  induction k generalizing d with
  | zero => rfl
  | succ k ih =>
    unfold firstN
    rw [h d (Nat.le_refl d) (by omega), ih (d + 1) (fun i a b => h i (by omega) (by omega))]
theorem meet_step (M : gM) (k c f s k2 c2 f2 s2 c' s' : Nat) : seti (seti (putTh (putTh M 24 k c f s) 25 k2 c2 f2 s2) 4 24 3 (nI s')) 4 24 1 (nI c') = putTh (putTh M 24 k c' f s') 25 k2 c2 f2 s2 := by
  refine gM_ext (fun r i j => ?_) rfl
  rw [seti_r, seti_r, putTh_r, putTh_r, putTh_r, putTh_r]
  by_cases z : r = 4 ∧ i = 24
  · obtain ⟨rfl, rfl⟩ := z
    by_cases j1 : j = 1
    · subst j1; simp
    · by_cases j3 : j = 3
      · subst j3; simp
      · simp [j1, j3]
  · have hz : ∀ n, ¬ (r = 4 ∧ i = 24 ∧ j = n) := fun n e => z ⟨e.1, e.2.1⟩
    simp only [if_neg (hz _)]
theorem lea_s (I : Nat) (S : Nat → Nat) (t c n : Nat) : leaW I S t c (n + 1) = if waysN I S t (n + 1) c < leaW I S t c n then waysN I S t (n + 1) c else leaW I S t c n := rfl
theorem lea_mn (I : Nat) (S : Nat → Nat) (t c n : Nat) (h1 : leaW I S t c n < 2 ^ 31) (h2 : waysN I S t (n + 1) c < 2 ^ 31) : (if nI (waysN I S t (n + 1) c) < nI (leaW I S t c n) then nI (waysN I S t (n + 1) c) else nI (leaW I S t c n)) = nI (leaW I S t c (n + 1)) := by
  rw [mn h1 h2, lea_s]
  congr 1
  split <;> split <;> omega
