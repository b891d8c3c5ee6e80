/-! the pick over what is tried -/
def pkB (N : gM) (f : Nat → Nat) (i : Nat) : Prop := (i = 0 ∧ N.1 7 0 1 = -1000000000) ∨ ∃ k, i = k + 1 ∧ N.1 7 0 0 = nI (bstN f k).1 ∧ N.1 7 0 1 = nI (bstN f k).2
theorem bst_le {f : Nat → Nat} {B : Nat} (h : ∀ v, f v ≤ B) (n : Nat) : (bstN f n).2 ≤ B ∧ (bstN f n).1 ≤ n := by
  induction n with
  | zero => exact ⟨h 0, Nat.le_refl 0⟩
  | succ n ih =>
    unfold bstN
    split
    · exact ⟨h _, Nat.le_refl _⟩
    · exact ⟨ih.1, by omega⟩
theorem bst_leN {f : Nat → Nat} {B m : Nat} (h : ∀ v, v ≤ m → f v ≤ B) (n : Nat) (hn : n ≤ m) : (bstN f n).2 ≤ B ∧ (bstN f n).1 ≤ n := by
  induction n with
  | zero => exact ⟨h 0 (by omega), Nat.le_refl 0⟩
  | succ n ih =>
    have ih := ih (by omega)
    unfold bstN
    split
    · exact ⟨h _ hn, Nat.le_refl _⟩
    · exact ⟨ih.1, by omega⟩
theorem pkB_ok {M N : gM} {f : Nat → Nat} {i m : Nat} {v : Int32} (h : eqX M N) (hp : pkB N f i) (hv : N.1 7 0 1 = v) (hf : ∀ v, v ≤ m → f v ≤ 99999 * 8) (hi : i ≤ m) :
    eqX M (if v.toInt < (nI (f i)).toInt then seti (seti N 7 0 0 (nI i)) 7 0 1 (nI (f i)) else N) ∧ pkB (if v.toInt < (nI (f i)).toInt then seti (seti N 7 0 0 (nI i)) 7 0 1 (nI (f i)) else N) f (i + 1) := by
  have z : scr 7 0 := by unfold scr; omega
  have e2 := nI_toInt (n := f i) (by have := hf i hi; omega)
  rcases hp with ⟨rfl, e⟩ | ⟨k, rfl, e, e'⟩
  · rw [e] at hv
    subst hv
    rw [if_pos (by rw [e2, show (-1000000000 : Int32).toInt = -1000000000 from by decide]; omega)]
    exact ⟨h.tr ((eqX_seti N z).tr (eqX_seti _ z)), Or.inr ⟨0, rfl, by simp [seti_r, bstN], by simp [seti_r, bstN]⟩⟩
  · rw [e'] at hv
    subst hv
    have hb := (bst_leN hf k (by omega)).1
    have e1 := nI_toInt (n := (bstN f k).2) (by omega)
    by_cases q : (bstN f k).2 < f (k + 1)
    · have es : bstN f (k + 1) = (k + 1, f (k + 1)) := by show (if _ then _ else _) = _; rw [if_pos q]
      rw [if_pos (by rw [e1, e2]; omega)]
      exact ⟨h.tr ((eqX_seti N z).tr (eqX_seti _ z)), Or.inr ⟨k + 1, rfl, by rw [es]; simp [seti_r], by rw [es]; simp [seti_r]⟩⟩
    · have es : bstN f (k + 1) = bstN f k := by show (if _ then _ else _) = _; rw [if_neg q]
      rw [if_neg (by rw [e1, e2]; omega)]
      exact ⟨h, Or.inr ⟨k + 1, rfl, by rw [es]; exact e, by rw [es]; exact e'⟩⟩
def pkM (N : gM) (st : Int32 × Nat) : Prop := N.1 7 0 0 = st.1 ∧ ((st.1 = -1 ∧ N.1 7 0 1 = -1000000000) ∨ (¬ st.1 = -1 ∧ N.1 7 0 1 = -nI st.2 ∧ st.2 < 2 ^ 29))
theorem pkM_ok {M N : gM} {st : Int32 × Nat} {v : Int32} {w g : Nat} (h : eqX M N) (hp : pkM N st) (hv : N.1 7 0 1 = v) (hg : g < 2 ^ 29) (hw : w < 8) :
    eqX M (if v.toInt < (-nI g).toInt then seti (seti N 7 0 0 (nI w)) 7 0 1 (-nI g) else N) ∧ pkM (if v.toInt < (-nI g).toInt then seti (seti N 7 0 0 (nI w)) 7 0 1 (-nI g) else N) (if st.1 = -1 ∨ g < st.2 then (nI w, g) else st) := by
  have z : scr 7 0 := by unfold scr; omega
  have e2 := sb_negT (w := g) (by omega)
  have hw1 : ¬ nI w = -1 := by
    intro q
    have := nI_toInt (n := w) (by omega)
    rw [q, show (-1 : Int32).toInt = -1 from by decide] at this
    omega
  obtain ⟨h0, hp⟩ := hp
  rcases hp with ⟨e, e'⟩ | ⟨e, e', e3⟩
  · rw [e'] at hv
    subst hv
    rw [if_pos (by rw [e2, show (-1000000000 : Int32).toInt = -1000000000 from by decide]; omega), if_pos (Or.inl e)]
    exact ⟨h.tr ((eqX_seti N z).tr (eqX_seti _ z)), by simp [seti_r], Or.inr ⟨hw1, by simp [seti_r], hg⟩⟩
  · rw [e'] at hv
    subst hv
    have e1 := sb_negT (w := st.2) (by omega)
    by_cases q : g < st.2
    · rw [if_pos (by rw [e1, e2]; omega), if_pos (Or.inr q)]
      exact ⟨h.tr ((eqX_seti N z).tr (eqX_seti _ z)), by simp [seti_r], Or.inr ⟨hw1, by simp [seti_r], hg⟩⟩
    · rw [if_neg (by rw [e1, e2]; omega), if_neg (by intro y; rcases y with y | y; exact e y; exact q y)]
      exact ⟨h, h0, Or.inr ⟨e, e', e3⟩⟩
theorem put_7 (N : gM) (q : Nat) (S : Nat → Nat) (n i k : Nat) : (putSn N q S n).1 7 i k = N.1 7 i k := putSn_far N q S (by omega) (by omega) (by omega) k
theorem put_20 (N : gM) (S : Nat → Nat) (n k : Nat) : (putSn N 1 S n).1 2 0 k = N.1 2 0 k := putSn_far N 1 S (by omega) (by omega) (by omega) k
theorem swp_ab {N : gM} {S : Nat → Nat} {a b : Nat} (ha : a < 7) (hb : b < 7) (hab : ¬ a = b) : seti (seti (putSea N 1 S) 2 1 a (nI (S (4 + b)))) 2 1 b (nI (S (4 + a))) = putSea N 1 (swpS S a b) := by
  rw [putSn_seti_o _ _ _ _ ha, putSn_seti_o _ _ _ _ hb, swpS_e hab]
  show putSn N 1 (swpS S a b) (S 3) = putSn N 1 (swpS S a b) (swpS S a b 3)
  have : swpS S a b 3 = S 3 := by unfold swpS; rw [if_neg (by omega), if_neg (by omega)]
  rw [this]
theorem swpB_lt {S : Nat → Nat} {n a : Nat} {st : Int32 × Nat} (hwf : wfS S) (hd : S 0 + n < 20000) (ha : a < 7) (hs : st.2 < 2 ^ 30) (k : Nat) (hk : k ≤ 6 - a) : (swpB S n a st k).2 < 2 ^ 30 := by
  induction k with
  | zero => exact hs
  | succ k ih =>
    have hg := gain_le (wf_swp hwf (a := a) (b := a + 1 + k) ha (by omega) (by omega)) (n := n) (by have : swpS S a (a + 1 + k) 0 = S 0 := by unfold swpS; rw [if_neg (by omega), if_neg (by omega)]
                                                                                                    omega)
    show (upB (swpB S n a st k) _ _).2 < 2 ^ 30
    unfold upB
    split
    · show gainN n _ < _; omega
    · exact ih (by omega)
theorem swpA_lt {S : Nat → Nat} {n : Nat} (hwf : wfS S) (hd : S 0 + n < 20000) (a : Nat) (ha : a ≤ 7) : (swpA S n a).2 < 2 ^ 30 := by
  induction a with
  | zero => have := gain_le hwf hd; show gainN n S < _; omega
  | succ a ih => exact swpB_lt hwf hd (by omega) (ih (by omega)) _ (Nat.le_refl _)
