/-! A SEA IN MEMORY: sea q of the class (0 sea, 1 trial, 2 kept) holds S -/
theorem gM_ext {M M' : gM} (h1 : ∀ r i k, M.1 r i k = M'.1 r i k) (h2 : M.2 = M'.2) : M = M' := by
  refine Prod.ext ?_ h2
  funext r i k
  exact h1 r i k
def seaP (M : gM) (q : Nat) (S : Nat → Nat) : Prop := M.1 1 q 0 = nI (S 0) ∧ M.1 1 q 2 = nI (S 2) ∧ M.1 1 q 3 = nI (S 1) ∧ M.1 1 q 4 = nI (S 3) ∧ (∀ d, d < 7 → M.1 2 q d = nI (S (4 + d))) ∧ ∀ t, t < S 3 → ∀ w, w < 4 → M.1 4 (8 * q + t) w = nI (S (11 + 4 * t + w))
def putSn (M : gM) (q : Nat) (S : Nat → Nat) (n : Nat) : gM := (fun r i k =>
  if r = 1 ∧ i = q ∧ k = 0 then nI (S 0) else if r = 1 ∧ i = q ∧ k = 2 then nI (S 2) else if r = 1 ∧ i = q ∧ k = 3 then nI (S 1) else if r = 1 ∧ i = q ∧ k = 4 then nI (S 3)
  else if r = 2 ∧ i = q ∧ k < 7 then nI (S (4 + k)) else if r = 4 ∧ 8 * q ≤ i ∧ i < 8 * q + n ∧ k < 4 then nI (S (11 + 4 * (i - 8 * q) + k)) else M.1 r i k, M.2)
abbrev putSea (M : gM) (q : Nat) (S : Nat → Nat) : gM := putSn M q S (S 3)
theorem putSn_r (M : gM) (q : Nat) (S : Nat → Nat) (n r i k : Nat) : (putSn M q S n).1 r i k = if r = 1 ∧ i = q ∧ k = 0 then nI (S 0) else if r = 1 ∧ i = q ∧ k = 2 then nI (S 2) else if r = 1 ∧ i = q ∧ k = 3 then nI (S 1) else if r = 1 ∧ i = q ∧ k = 4 then nI (S 3)
  else if r = 2 ∧ i = q ∧ k < 7 then nI (S (4 + k)) else if r = 4 ∧ 8 * q ≤ i ∧ i < 8 * q + n ∧ k < 4 then nI (S (11 + 4 * (i - 8 * q) + k)) else M.1 r i k := rfl
theorem putSn_2 (M : gM) (q : Nat) (S : Nat → Nat) (n : Nat) : (putSn M q S n).2 = M.2 := rfl
theorem putSn_0 (M : gM) (q : Nat) (S : Nat → Nat) (n : Nat) : (putSn M q S n).1 1 q 0 = nI (S 0) := by simp [putSn_r]
theorem putSn_s (M : gM) (q : Nat) (S : Nat → Nat) (n : Nat) : (putSn M q S n).1 1 q 2 = nI (S 2) := by simp [putSn_r]
theorem putSn_f (M : gM) (q : Nat) (S : Nat → Nat) (n : Nat) : (putSn M q S n).1 1 q 3 = nI (S 1) := by simp [putSn_r]
theorem putSn_c (M : gM) (q : Nat) (S : Nat → Nat) (n : Nat) : (putSn M q S n).1 1 q 4 = nI (S 3) := by simp [putSn_r]
theorem putSn_o (M : gM) (q : Nat) (S : Nat → Nat) (n : Nat) {d : Nat} (h : d < 7) : (putSn M q S n).1 2 q d = nI (S (4 + d)) := by simp [putSn_r, h]
theorem putSn_t (M : gM) (q : Nat) (S : Nat → Nat) (n : Nat) {t w : Nat} (h : t < n) (hw : w < 4) : (putSn M q S n).1 4 (8 * q + t) w = nI (S (11 + 4 * t + w)) := by
  rw [putSn_r, if_neg (by omega), if_neg (by omega), if_neg (by omega), if_neg (by omega), if_neg (by omega), if_pos (by omega), show 8 * q + t - 8 * q = t by omega]
theorem putSea_P (M : gM) (q : Nat) (S : Nat → Nat) : seaP (putSea M q S) q S :=
  ⟨putSn_0 .., putSn_s .., putSn_f .., putSn_c .., fun _ h => putSn_o _ _ _ _ h, fun _ h _ hw => putSn_t _ _ _ _ h hw⟩
/-- what isn't sea q's stays -/
theorem putSn_far (M : gM) (q : Nat) (S : Nat → Nat) {n r i : Nat} (h1 : ¬ (r = 1 ∧ i = q)) (h2 : ¬ (r = 2 ∧ i = q)) (h3 : ¬ (r = 4 ∧ 8 * q ≤ i ∧ i < 8 * q + n)) (k : Nat) : (putSn M q S n).1 r i k = M.1 r i k := by
  rw [putSn_r, if_neg (by omega), if_neg (by omega), if_neg (by omega), if_neg (by omega), if_neg (by omega), if_neg (by omega)]
theorem putSn_id {M : gM} {q : Nat} {S : Nat → Nat} (h : seaP M q S) : putSea M q S = M := by
  obtain ⟨h0, h2, h3, h4, hr, ht⟩ := h
  refine gM_ext (fun r i k => ?_) rfl
  rw [putSn_r]
  split
  · rename_i z; obtain ⟨rfl, rfl, rfl⟩ := z; exact h0.symm
  split
  · rename_i z; obtain ⟨rfl, rfl, rfl⟩ := z; exact h2.symm
  split
  · rename_i z; obtain ⟨rfl, rfl, rfl⟩ := z; exact h3.symm
  split
  · rename_i z; obtain ⟨rfl, rfl, rfl⟩ := z; exact h4.symm
  split
  · rename_i z; obtain ⟨rfl, rfl, z⟩ := z; exact (hr k z).symm
  split
  · rename_i z; obtain ⟨rfl, z1, z2, z3⟩ := z
    have := ht (i - 8 * q) (by omega) k z3
    rw [show 8 * q + (i - 8 * q) = i by omega] at this
    exact this.symm
  · rfl
theorem putSn_cong {M : gM} {q : Nat} {S S' : Nat → Nat} {n : Nat} (h : ∀ x, x < 11 + 4 * n → S x = S' x) (hn : 0 ≤ n) : putSn M q S n = putSn M q S' n := by
  refine gM_ext (fun r i k => ?_) rfl
  rw [putSn_r, putSn_r, h 0 (by omega), h 1 (by omega), h 2 (by omega), h 3 (by omega)]
  split <;> try rfl
  split <;> try rfl
  split <;> try rfl
  split <;> try rfl
  split
  · rw [h _ (by omega)]
  split
  · rw [h _ (by omega)]
  · rfl
theorem putSea_cong {M : gM} {q : Nat} {S S' : Nat → Nat} (h : ∀ x, x < 11 + 4 * S' 3 → S x = S' x) : putSea M q S = putSea M q S' := by
  have e : S 3 = S' 3 := h 3 (by omega)
  show putSn M q S (S 3) = putSn M q S' (S' 3)
  rw [e]
  exact putSn_cong h (Nat.zero_le _)
theorem putSn_put (M : gM) (q : Nat) (S S' : Nat → Nat) {n n' : Nat} (h : n ≤ n') : putSn (putSn M q S n) q S' n' = putSn M q S' n' := by
  refine gM_ext (fun r i k => ?_) rfl
  rw [putSn_r (putSn M q S n), putSn_r M q S' n']
  by_cases a1 : r = 1 ∧ i = q ∧ k = 0
  · rw [if_pos a1, if_pos a1]
  rw [if_neg a1, if_neg a1]
  by_cases a2 : r = 1 ∧ i = q ∧ k = 2
  · rw [if_pos a2, if_pos a2]
  rw [if_neg a2, if_neg a2]
  by_cases a3 : r = 1 ∧ i = q ∧ k = 3
  · rw [if_pos a3, if_pos a3]
  rw [if_neg a3, if_neg a3]
  by_cases a4 : r = 1 ∧ i = q ∧ k = 4
  · rw [if_pos a4, if_pos a4]
  rw [if_neg a4, if_neg a4]
  by_cases a5 : r = 2 ∧ i = q ∧ k < 7
  · rw [if_pos a5, if_pos a5]
  rw [if_neg a5, if_neg a5]
  by_cases a6 : r = 4 ∧ 8 * q ≤ i ∧ i < 8 * q + n' ∧ k < 4
  · rw [if_pos a6, if_pos a6]
  rw [if_neg a6, if_neg a6, putSn_r, if_neg a1, if_neg a2, if_neg a3, if_neg a4, if_neg a5, if_neg (by omega)]
theorem vu_s (S : Nat → Nat) (x v : Nat) : va_up S x v x = v := by simp [va_up]
theorem vu_o {S : Nat → Nat} {x v y : Nat} (h : ¬ y = x) : va_up S x v y = S y := by simp [va_up, h]
theorem vu_r (S : Nat → Nat) (x v y : Nat) : va_up S x v y = if y = x then v else S y := rfl
/-- a number of a thing -/
theorem putSn_seti_t (M : gM) (q : Nat) (S : Nat → Nat) {n t w v : Nat} (ht : t < n) (hw : w < 4) : seti (putSn M q S n) 4 (8 * q + t) w (nI v) = putSn M q (va_up S (11 + 4 * t + w) v) n := by
  refine gM_ext (fun r i k => ?_) rfl
  rw [seti_r, putSn_r, putSn_r]
  by_cases z : r = 4 ∧ i = 8 * q + t ∧ k = w
  · obtain ⟨rfl, rfl, rfl⟩ := z
    rw [if_pos (by omega), if_neg (by omega), if_neg (by omega), if_neg (by omega), if_neg (by omega), if_neg (by omega), if_pos (by omega), show 8 * q + t - 8 * q = t by omega, vu_s]
  · rw [if_neg z, vu_o (by omega), vu_o (by omega), vu_o (by omega), vu_o (by omega)]
    split <;> try rfl
    split <;> try rfl
    split <;> try rfl
    split <;> try rfl
    split
    · rw [vu_o (by omega)]
    split
    · rw [vu_o (by omega)]
    · rfl
/-- the day, the sick winds, the force; a day of the rota -/
theorem putSn_seti_0 (M : gM) (q : Nat) (S : Nat → Nat) (n v : Nat) : seti (putSn M q S n) 1 q 0 (nI v) = putSn M q (va_up S 0 v) n := by
  refine gM_ext (fun r i k => ?_) rfl
  rw [seti_r, putSn_r, putSn_r, vu_s, vu_o (show ¬ 1 = 0 by omega), vu_o (show ¬ 2 = 0 by omega), vu_o (show ¬ 3 = 0 by omega), vu_o (show ¬ 4 + k = 0 by omega), vu_o (show ¬ 11 + 4 * (i - 8 * q) + k = 0 by omega)]
  split <;> rfl
theorem putSn_seti_s (M : gM) (q : Nat) (S : Nat → Nat) (n v : Nat) : seti (putSn M q S n) 1 q 2 (nI v) = putSn M q (va_up S 2 v) n := by
  refine gM_ext (fun r i k => ?_) rfl
  rw [seti_r, putSn_r, putSn_r, vu_s, vu_o (show ¬ 0 = 2 by omega), vu_o (show ¬ 1 = 2 by omega), vu_o (show ¬ 3 = 2 by omega), vu_o (show ¬ 4 + k = 2 by omega), vu_o (show ¬ 11 + 4 * (i - 8 * q) + k = 2 by omega)]
  by_cases z : r = 1 ∧ i = q ∧ k = 2
  · rw [if_pos z, if_neg (by omega), if_pos z]
  · rw [if_neg z]; split <;> first | rfl | rw [if_neg z]
theorem putSn_seti_f (M : gM) (q : Nat) (S : Nat → Nat) (n v : Nat) : seti (putSn M q S n) 1 q 3 (nI v) = putSn M q (va_up S 1 v) n := by
  refine gM_ext (fun r i k => ?_) rfl
  rw [seti_r, putSn_r, putSn_r, vu_s, vu_o (show ¬ 0 = 1 by omega), vu_o (show ¬ 2 = 1 by omega), vu_o (show ¬ 3 = 1 by omega), vu_o (show ¬ 4 + k = 1 by omega), vu_o (show ¬ 11 + 4 * (i - 8 * q) + k = 1 by omega)]
  by_cases z : r = 1 ∧ i = q ∧ k = 3
  · rw [if_pos z, if_neg (by omega), if_neg (by omega), if_pos z]
  · rw [if_neg z]; split
    · rfl
    split <;> first | rfl | rw [if_neg z]
theorem putSn_seti_o (M : gM) (q : Nat) (S : Nat → Nat) (n : Nat) {d v : Nat} (hd : d < 7) : seti (putSn M q S n) 2 q d (nI v) = putSn M q (va_up S (4 + d) v) n := by
  refine gM_ext (fun r i k => ?_) rfl
  rw [seti_r, putSn_r, putSn_r, vu_o (show ¬ 0 = 4 + d by omega), vu_o (show ¬ 1 = 4 + d by omega), vu_o (show ¬ 2 = 4 + d by omega), vu_o (show ¬ 3 = 4 + d by omega), vu_o (show ¬ 11 + 4 * (i - 8 * q) + k = 4 + d by omega)]
  by_cases z : r = 2 ∧ i = q ∧ k = d
  · obtain ⟨rfl, rfl, rfl⟩ := z
    rw [if_pos (by omega), if_neg (by omega), if_neg (by omega), if_neg (by omega), if_neg (by omega), if_pos (by omega), vu_s]
  · rw [if_neg z]
    split <;> try rfl
    split <;> try rfl
    split <;> try rfl
    split <;> try rfl
    split
    · rw [vu_o (by omega)]
    · rfl
/-- another sea -/
theorem seaP_far {M : gM} {q q' : Nat} {S S' : Nat → Nat} {n : Nat} (h : ¬ q' = q) (hn : n ≤ 8) (h3 : S' 3 ≤ 8) : seaP (putSn M q S n) q' S' ↔ seaP M q' S' := by
  have e : ∀ r i k, (¬ (r = 1 ∧ i = q)) → (¬ (r = 2 ∧ i = q)) → (¬ (r = 4 ∧ 8 * q ≤ i ∧ i < 8 * q + n)) → (putSn M q S n).1 r i k = M.1 r i k := fun r i k a b c => putSn_far M q S a b c k
  unfold seaP
  rw [e 1 q' 0 (by omega) (by omega) (by omega), e 1 q' 2 (by omega) (by omega) (by omega), e 1 q' 3 (by omega) (by omega) (by omega), e 1 q' 4 (by omega) (by omega) (by omega)]
  constructor
  · rintro ⟨a, b, c, d, f, g⟩
    exact ⟨a, b, c, d, fun x hx => by rw [← e 2 q' x (by omega) (by omega) (by omega)]; exact f x hx, fun t ht w hw => by rw [← e 4 (8 * q' + t) w (by omega) (by omega) (by omega)]; exact g t ht w hw⟩
  · rintro ⟨a, b, c, d, f, g⟩
    exact ⟨a, b, c, d, fun x hx => by rw [e 2 q' x (by omega) (by omega) (by omega)]; exact f x hx, fun t ht w hw => by rw [e 4 (8 * q' + t) w (by omega) (by omega) (by omega)]; exact g t ht w hw⟩
/-! days -/
def dayP (S : Nat → Nat) (w n : Nat) : Nat → Nat := fun x => if 11 ≤ x ∧ x < 11 + 4 * n then
  (if (x - 11) % 4 = 1 then wenN (S (x - 1)) (S (x + 1)) (S 1) (S x) w else if (x - 11) % 4 = 3 then sumN (S x) (earN (S (x - 3)) (S (x - 1)) (S 1) (S 0) w) else S x) else S x
theorem dayP_0 (S : Nat → Nat) (w : Nat) : dayP S w 0 = S := by
  funext x
  unfold dayP
  rw [if_neg (by omega)]
theorem dayP_ge {S : Nat → Nat} {w n x : Nat} (h : 11 + 4 * n ≤ x ∨ x < 11) : dayP S w n x = S x := by
  unfold dayP
  rw [if_neg (by omega)]
theorem dayP_succ (S : Nat → Nat) (w n : Nat) : va_up (va_up (dayP S w n) (11 + 4 * n + 3) (sumN (S (11 + 4 * n + 3)) (earN (S (11 + 4 * n)) (S (11 + 4 * n + 2)) (S 1) (S 0) w))) (11 + 4 * n + 1) (wenN (S (11 + 4 * n)) (S (11 + 4 * n + 2)) (S 1) (S (11 + 4 * n + 1)) w) = dayP S w (n + 1) := by
  funext x
  rw [vu_r, vu_r]
  unfold dayP
  by_cases a : x = 11 + 4 * n + 1
  · subst a
    rw [if_pos rfl, if_pos (by omega), if_pos (by omega)]
    rfl
  · rw [if_neg a]
    by_cases b : x = 11 + 4 * n + 3
    · subst b
      rw [if_pos rfl, if_pos (by omega), if_neg (by omega), if_pos (by omega)]
      rfl
    · rw [if_neg b]
      by_cases c : 11 ≤ x ∧ x < 11 + 4 * n
      · rw [if_pos c, if_pos (show 11 ≤ x ∧ x < 11 + 4 * (n + 1) by omega)]
      · rw [if_neg c]
        split
        · rw [if_neg (by omega), if_neg (by omega)]
        · rfl
theorem dayW_P (S : Nat → Nat) (w : Nat) : va_up (dayP S w (S 3)) 0 (S 0 + 1) = dayW S w := by
  funext x
  rw [vu_r]
  unfold dayP dayW
  rfl
theorem dayW_3 (S : Nat → Nat) (w : Nat) : dayW S w 3 = S 3 := by unfold dayW; rw [if_neg (by omega), if_neg (by omega)]
theorem dayW_0 (S : Nat → Nat) (w : Nat) : dayW S w 0 = S 0 + 1 := by unfold dayW; rw [if_pos rfl]
theorem dayW_lo {S : Nat → Nat} {w x : Nat} (h : 0 < x) (h2 : x < 11) : dayW S w x = S x := by unfold dayW; rw [if_neg (by omega), if_neg (by omega)]
theorem dayW_k {S : Nat → Nat} {w t : Nat} (h : t < S 3) : dayW S w (11 + 4 * t) = S (11 + 4 * t) := by unfold dayW; rw [if_neg (by omega), if_pos (by omega), if_neg (by omega), if_neg (by omega)]
theorem dayW_c {S : Nat → Nat} {w t : Nat} (h : t < S 3) : dayW S w (11 + 4 * t + 1) = wenN (S (11 + 4 * t)) (S (11 + 4 * t + 2)) (S 1) (S (11 + 4 * t + 1)) w := by unfold dayW; rw [if_neg (by omega), if_pos (by omega), if_pos (by omega)]; rfl
theorem dayW_f {S : Nat → Nat} {w t : Nat} (h : t < S 3) : dayW S w (11 + 4 * t + 2) = S (11 + 4 * t + 2) := by unfold dayW; rw [if_neg (by omega), if_pos (by omega), if_neg (by omega), if_neg (by omega)]
theorem dayW_s {S : Nat → Nat} {w t : Nat} (h : t < S 3) : dayW S w (11 + 4 * t + 3) = sumN (S (11 + 4 * t + 3)) (earN (S (11 + 4 * t)) (S (11 + 4 * t + 2)) (S 1) (S 0) w) := by unfold dayW; rw [if_neg (by omega), if_pos (by omega), if_neg (by omega), if_pos (by omega)]; rfl
theorem wf_dayW {S : Nat → Nat} {w : Nat} (h : wfS S) (hd : S 0 + 1 < 20000) : wfS (dayW S w) := by
  obtain ⟨h0, h1, h2, h3, hr, ht⟩ := h
  refine ⟨by rw [dayW_0]; exact hd, by rw [dayW_lo (by omega) (by omega)]; exact h1, by rw [dayW_lo (by omega) (by omega)]; exact h2, by rw [dayW_3]; exact h3, fun d hd => by rw [dayW_lo (by omega) (by omega)]; exact hr d hd, fun t htt => ?_⟩
  rw [dayW_3] at htt
  obtain ⟨a, b, c, d⟩ := ht t htt
  rw [dayW_k htt, dayW_c htt, dayW_f htt, dayW_s htt]
  exact ⟨a, wen_lt b, c, sumN_le _ _⟩
theorem dayN_3 (n : Nat) (S : Nat → Nat) : dayN n S 3 = S 3 := by
  induction n with
  | zero => rfl
  | succ n ih => show dayW (dayN n S) (blow (dayN n S) (dayN n S 0)) 3 = _; rw [dayW_3, ih]
theorem dayN_0 (n : Nat) (S : Nat → Nat) : dayN n S 0 = S 0 + n := by
  induction n with
  | zero => rfl
  | succ n ih => show dayW (dayN n S) (blow (dayN n S) (dayN n S 0)) 0 = _; rw [dayW_0, ih]; omega
theorem dayN_lo {n : Nat} {S : Nat → Nat} {x : Nat} (h : 0 < x) (h2 : x < 11) : dayN n S x = S x := by
  induction n with
  | zero => rfl
  | succ n ih => show dayW (dayN n S) (blow (dayN n S) (dayN n S 0)) x = _; rw [dayW_lo h h2, ih]
theorem wf_dayN {S : Nat → Nat} {n : Nat} (h : wfS S) (hd : S 0 + n < 20000) : wfS (dayN n S) := by
  induction n with
  | zero => exact h
  | succ n ih => exact wf_dayW (ih (by omega)) (by rw [dayN_0]; omega)
theorem sumsP_le {S : Nat → Nat} (n : Nat) (h : ∀ t, t < n → S (11 + 4 * t + 3) ≤ 99999) : sumsP S n ≤ 99999 * n := by
  induction n with
  | zero => exact Nat.le_refl 0
  | succ n ih =>
    have := ih (fun t ht => h t (by omega))
    have := h n (by omega)
    unfold sumsP
    omega
theorem sumsN_le {S : Nat → Nat} (h : wfS S) : sumsN S ≤ 99999 * 8 := by
  have h1 := sumsP_le (S := S) (S 3) (fun t ht => (h.2.2.2.2.2 t ht).2.2.2)
  have h2 := h.2.2.2.1
  unfold sumsN
  omega
theorem sumsP_mono {S S' : Nat → Nat} (n : Nat) (h : ∀ t, t < n → S (11 + 4 * t + 3) ≤ S' (11 + 4 * t + 3)) : sumsP S n ≤ sumsP S' n := by
  induction n with
  | zero => exact Nat.le_refl 0
  | succ n ih =>
    have := ih (fun t ht => h t (by omega))
    have := h n (by omega)
    unfold sumsP
    omega
theorem sums_dayW {S : Nat → Nat} {w : Nat} (h : wfS S) : sumsN S ≤ sumsN (dayW S w) := by
  unfold sumsN
  rw [dayW_3]
  refine sumsP_mono _ (fun t ht => ?_)
  rw [dayW_s ht]
  have := (h.2.2.2.2.2 t ht).2.2.2
  unfold sumN
  split <;> omega
theorem sums_dayN {S : Nat → Nat} {n : Nat} (h : wfS S) (hd : S 0 + n < 20000) : sumsN S ≤ sumsN (dayN n S) := by
  induction n with
  | zero => exact Nat.le_refl _
  | succ n ih => exact Nat.le_trans (ih (by omega)) (sums_dayW (wf_dayN h (by omega)))
def calP (S : Nat → Nat) : Nat → Nat
  | 0 => 0
  | n + 1 => calP S n + (if S (4 + n) = 8 then 1 else 0)
theorem calP_le (S : Nat → Nat) (n : Nat) : calP S n ≤ n := by
  induction n with
  | zero => exact Nat.le_refl 0
  | succ n ih => unfold calP; split <;> omega
def earP (S : Nat → Nat) (w : Nat) : Nat → Nat
  | 0 => 0
  | n + 1 => earP S w n + earN (S (11 + 4 * n)) (S (11 + 4 * n + 2)) (S 1) (S 0) w
def goP (S : Nat → Nat) (w : Nat) : Nat → Nat
  | 0 => 0
  | n + 1 => goP S w n ||| (if goN (S (11 + 4 * n)) (S (11 + 4 * n + 2)) (S 1) w then 2 ^ n else 0)
def mkS (s w v : Nat) : Nat := if v = 1 then s ||| 2 ^ w else s &&& (255 - 2 ^ w)
theorem sick_t : ∀ s, s < 256 → ∀ w, w < 8 → ((nI s >>> (nI w &&& 31)) &&& nI 1) = nI (if s.testBit w then 1 else 0) ∧ (nI s ||| (nI 1 <<< (nI w &&& 31))) = nI (mkS s w 1) ∧ (nI s &&& ((nI 1 <<< (nI w &&& 31)) ^^^ (-1))) = nI (mkS s w 0) ∧ mkS s w 0 < 256 ∧ mkS s w 1 < 256 := by decide +kernel
theorem shl_t : ∀ w, w < 8 → (nI 1 <<< (nI w &&& 31)) = nI (2 ^ w) := by decide +kernel
def addS (S : Nat → Nat) (k c f : Nat) : Nat → Nat := fun x => if x = 3 then S 3 + 1 else if x = 11 + 4 * S 3 then k else if x = 11 + 4 * S 3 + 1 then c else if x = 11 + 4 * S 3 + 2 then f else if x = 11 + 4 * S 3 + 3 then 0 else S x
theorem addS_put {M : gM} {q : Nat} {S : Nat → Nat} {k c f : Nat} (h : seaP M q S) (h8 : S 3 < 8) : seti (seti (seti (seti (seti M 4 (8 * q + S 3) 0 (nI k)) 4 (8 * q + S 3) 1 (nI c)) 4 (8 * q + S 3) 2 (nI f)) 4 (8 * q + S 3) 3 (nI 0)) 1 q 4 (nI (S 3 + 1)) = putSea M q (addS S k c f) := by
  obtain ⟨h0, h2, h3, h4, hr, ht⟩ := h
  have e3 : addS S k c f 3 = S 3 + 1 := rfl
  have el : ∀ x, x < 11 → ¬ x = 3 → addS S k c f x = S x := fun x a b => by unfold addS; rw [if_neg b, if_neg (by omega), if_neg (by omega), if_neg (by omega), if_neg (by omega)]
  refine gM_ext (fun r i j => ?_) rfl
  rw [seti_r, seti_r, seti_r, seti_r, seti_r, putSn_r, e3, el 0 (by omega) (by omega), el 1 (by omega) (by omega), el 2 (by omega) (by omega)]
  by_cases z1 : r = 1 ∧ i = q ∧ j = 4
  · rw [if_pos z1, if_neg (by omega), if_neg (by omega), if_neg (by omega), if_pos z1]
  rw [if_neg z1]
  by_cases z2 : r = 4 ∧ i = 8 * q + S 3 ∧ j < 4
  · obtain ⟨rfl, rfl, z2⟩ := z2
    rw [if_neg (show ¬ (4 = 1 ∧ 8 * q + S 3 = q ∧ j = 0) by omega), if_neg (show ¬ (4 = 1 ∧ 8 * q + S 3 = q ∧ j = 2) by omega), if_neg (show ¬ (4 = 1 ∧ 8 * q + S 3 = q ∧ j = 3) by omega), if_neg (show ¬ (4 = 1 ∧ 8 * q + S 3 = q ∧ j = 4) by omega), if_neg (show ¬ (4 = 2 ∧ 8 * q + S 3 = q ∧ j < 7) by omega), if_pos (show 4 = 4 ∧ 8 * q ≤ 8 * q + S 3 ∧ 8 * q + S 3 < 8 * q + (S 3 + 1) ∧ j < 4 by omega), show 8 * q + S 3 - 8 * q = S 3 by omega]
    obtain rfl | rfl | rfl | rfl : j = 0 ∨ j = 1 ∨ j = 2 ∨ j = 3 := by omega
    · simp [addS]; rw [if_neg (by omega)]
    · simp [addS]; rw [if_neg (by omega)]
    · simp [addS]; rw [if_neg (by omega)]
    · simp [addS]
  rw [if_neg (by omega), if_neg (by omega), if_neg (by omega), if_neg (by omega)]
  split
  · rename_i z; obtain ⟨rfl, rfl, rfl⟩ := z; exact h0
  split
  · rename_i z; obtain ⟨rfl, rfl, rfl⟩ := z; exact h2
  split
  · rename_i z; obtain ⟨rfl, rfl, rfl⟩ := z; exact h3
  split
  · rename_i z; obtain ⟨rfl, rfl, z⟩ := z; rw [el _ (by omega) (by omega)]; exact hr j z
  split
  · rename_i z; obtain ⟨rfl, z5, z6, z7⟩ := z
    have h9 : i < 8 * q + S 3 := by omega
    have := ht (i - 8 * q) (by omega) j z7
    rw [show 8 * q + (i - 8 * q) = i by omega] at this
    rw [this]
    unfold addS
    rw [if_neg (by omega), if_neg (by omega), if_neg (by omega), if_neg (by omega), if_neg (by omega)]
  · rfl
theorem become_head {M : gM} {q p : Nat} {S : Nat → Nat} (h0 : M.1 1 p 0 = nI (S 0)) (hr : ∀ d, d < 7 → M.1 2 p d = nI (S (4 + d))) : seti (seti (seti (setI (seti M 1 q 0 (nI (S 0))) 2 q (va_cpy ((seti M 1 q 0 (nI (S 0))).1 2 p) ((seti M 1 q 0 (nI (S 0))).1 2 q) 0 0 7)) 1 q 2 (nI (S 2))) 1 q 3 (nI (S 1))) 1 q 4 (nI (S 3)) = putSn M q S 0 := by
  refine gM_ext (fun r i k => ?_) rfl
  have hI : ∀ (N : gM) (f : Nat → Int32), (setI N 2 q f).1 r i k = if r = 2 ∧ i = q then f k else N.1 r i k := by
    intro N f
    unfold setI
    by_cases z : r = 2 ∧ i = q
    · simp only [if_pos z]
    · simp only [if_neg z]
  rw [seti_r, seti_r, seti_r, hI, putSn_r]
  by_cases a4 : r = 1 ∧ i = q ∧ k = 4
  · rw [if_pos a4, if_neg (by omega), if_neg (by omega), if_neg (by omega), if_pos a4]
  rw [if_neg a4, if_neg a4]
  by_cases a3 : r = 1 ∧ i = q ∧ k = 3
  · rw [if_pos a3, if_neg (by omega), if_neg (by omega), if_pos a3]
  rw [if_neg a3, if_neg a3]
  by_cases a2 : r = 1 ∧ i = q ∧ k = 2
  · rw [if_pos a2, if_neg (by omega), if_pos a2]
  rw [if_neg a2, if_neg a2]
  by_cases b : r = 2 ∧ i = q
  · obtain ⟨rfl, rfl⟩ := b
    rw [if_pos ⟨rfl, rfl⟩, if_neg (by omega), va_cpy]
    by_cases c : k < 7
    · rw [if_pos (by omega), if_pos (by omega), seti_r, if_neg (by omega), show 0 + (k - 0) = k by omega]
      exact hr k c
    · rw [if_neg (by omega), if_neg (by omega), if_neg (by omega), seti_r, if_neg (by omega)]
  · rw [if_neg b, seti_r]
    by_cases a1 : r = 1 ∧ i = q ∧ k = 0
    · rw [if_pos a1, if_pos a1]
    · rw [if_neg a1, if_neg a1, if_neg (by omega), if_neg (by omega)]
theorem become_step (M : gM) (q : Nat) (S : Nat → Nat) (t : Nat) : seti (seti (seti (seti (putSn M q S t) 4 (8 * q + t) 0 (nI (S (11 + 4 * t + 0)))) 4 (8 * q + t) 1 (nI (S (11 + 4 * t + 1)))) 4 (8 * q + t) 2 (nI (S (11 + 4 * t + 2)))) 4 (8 * q + t) 3 (nI (S (11 + 4 * t + 3))) = putSn M q S (t + 1) := by
  refine gM_ext (fun r i k => ?_) rfl
  rw [seti_r, seti_r, seti_r, seti_r, putSn_r, putSn_r]
  by_cases z : r = 4 ∧ i = 8 * q + t ∧ k < 4
  · obtain ⟨rfl, rfl, z⟩ := z
    rw [if_neg (show ¬ (4 = 1 ∧ 8 * q + t = q ∧ k = 0) by omega), if_neg (show ¬ (4 = 1 ∧ 8 * q + t = q ∧ k = 2) by omega), if_neg (show ¬ (4 = 1 ∧ 8 * q + t = q ∧ k = 3) by omega), if_neg (show ¬ (4 = 1 ∧ 8 * q + t = q ∧ k = 4) by omega), if_neg (show ¬ (4 = 2 ∧ 8 * q + t = q ∧ k < 7) by omega), if_pos (show 4 = 4 ∧ 8 * q ≤ 8 * q + t ∧ 8 * q + t < 8 * q + (t + 1) ∧ k < 4 by omega), show 8 * q + t - 8 * q = t by omega]
    obtain rfl | rfl | rfl | rfl : k = 0 ∨ k = 1 ∨ k = 2 ∨ k = 3 := by omega
    · simp
    · simp
    · simp
    · simp
  · rw [if_neg (by omega), if_neg (by omega), if_neg (by omega), if_neg (by omega)]
    by_cases a1 : r = 1 ∧ i = q ∧ k = 0
    · rw [if_pos a1, if_pos a1]
    rw [if_neg a1, if_neg a1]
    by_cases a2 : r = 1 ∧ i = q ∧ k = 2
    · rw [if_pos a2, if_pos a2]
    rw [if_neg a2, if_neg a2]
    by_cases a3 : r = 1 ∧ i = q ∧ k = 3
    · rw [if_pos a3, if_pos a3]
    rw [if_neg a3, if_neg a3]
    by_cases a4 : r = 1 ∧ i = q ∧ k = 4
    · rw [if_pos a4, if_pos a4]
    rw [if_neg a4, if_neg a4]
    by_cases a5 : r = 2 ∧ i = q ∧ k < 7
    · rw [if_pos a5, if_pos a5]
    rw [if_neg a5, if_neg a5]
    by_cases a6 : r = 4 ∧ 8 * q ≤ i ∧ i < 8 * q + t ∧ k < 4
    · rw [if_pos a6, if_pos (by omega)]
    · rw [if_neg a6, if_neg (by omega)]
