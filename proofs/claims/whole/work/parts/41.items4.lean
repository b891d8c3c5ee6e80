/-! what every item keeps -/
theorem rotM_B {T : Nat → Nat} (hT : ∀ j, T j < 256) {l : Nat} (n : Nat) : ∀ (d : Nat) (S : Nat → Nat) (L : Lx), lxB l L → lxB l (rotM T l n d S L).2.2 ∧ L.2.1 ≤ (rotM T l n d S L).2.2.2.1 ∧ (rotM T l n d S L).1 < 2 ∧ (rotM T l n d S L).2.1 0 = S 0 := by
  induction n with
  | zero => intro d S L h; exact ⟨h, Nat.le_refl _, by show (0 : Nat) < 2; decide, rfl⟩
  | succ n ih =>
    intro d S L h
    unfold rotM
    split
    · exact ⟨h, Nat.le_refl _, by show (0 : Nat) < 2; decide, rfl⟩
    · split
      · have e := lexN_B hT h.2.2.1
        have := ih (d + 1) (va_up S (4 + d) L.2.2.2) (lexN T l L.2.2.1) e.1
        have hb := h.2.2.2.2.1
        exact ⟨this.1, by omega, this.2.2.1, by rw [this.2.2.2, vu_o (by omega)]⟩
      · exact ⟨h, Nat.le_refl _, by show (1 : Nat) < 2; decide, by show va_up S (4 + d) _ 0 = S 0; rw [vu_o (by omega)]⟩
theorem rotM_wf {T : Nat → Nat} {l : Nat} (n : Nat) : ∀ (d : Nat) (S : Nat → Nat) (L : Lx), d + n ≤ 7 → wfS S → (rotM T l n d S L).1 = 0 → wfS (rotM T l n d S L).2.1 := by
  induction n with
  | zero => intro d S L _ h _; exact h
  | succ n ih =>
    intro d S L hd h
    unfold rotM
    split
    · intro _; exact h
    · split
      · rename_i q
        intro e
        exact ih (d + 1) _ _ (by omega) (wf_rota h (by omega) q.2) e
      · intro e; exact absurd e (by show ¬ (1 : Nat) = 0; decide)
/-- what one item is: where it ends, whether it is told, the sea it leaves -/
def itOK (l : Nat) (S : Nat → Nat) (a : Nat) (R : Nat × (Nat → Nat) × Lx) : Prop := lxB l R.2.2 ∧ R.1 < 2 ∧ (R.1 = 0 → a ≤ R.2.2.2.1) ∧ R.2.1 0 = S 0 ∧ (S 3 ≤ R.2.1 3 ∧ R.2.1 3 ≤ 8) ∧ (R.1 = 0 → wfS R.2.1)
theorem it_bad {l a : Nat} {S S' : Nat → Nat} {L : Lx} (h : lxB l L) (h0 : S' 0 = S 0) (h3 : S' 3 = S 3) (w3 : S 3 ≤ 8) : itOK l S a (1, S', L) := by
  refine ⟨h, ?_, ?_, h0, ?_, ?_⟩
  · show 1 < 2
    decide
  · intro e; exact absurd e (by show ¬ (1 : Nat) = 0; decide)
  · show S 3 ≤ S' 3 ∧ S' 3 ≤ 8
    omega
  · intro e; exact absurd e (by show ¬ (1 : Nat) = 0; decide)
theorem it_good {l a : Nat} {S S' : Nat → Nat} {L : Lx} (h : lxB l L) (ha : a ≤ L.2.1) (h0 : S' 0 = S 0) (h3 : S 3 ≤ S' 3) (w : wfS S') : itOK l S a (0, S', L) := by
  refine ⟨h, ?_, fun _ => ha, h0, ⟨h3, w.2.2.2.1⟩, fun _ => w⟩
  show 0 < 2
  decide
theorem thiM_ok {T S : Nat → Nat} (hT : ∀ j, T j < 256) {l : Nat} {L : Lx} (h : lxB l L) (hS : wfS S) (hk : L.1 ≤ 5) : itOK l S L.2.2.1 (thiM T l S L) := by
  have w3 := hS.2.2.2.1
  have e1 := lexN_B hT h.2.2.1
  unfold thiM
  generalize lexN T l L.2.2.1 = L1 at e1 ⊢
  have g1 := e1.1.2.2.2.2.1
  have e2 := lexN_B hT e1.1.2.2.1
  generalize lexN T l L1.2.2.1 = L2 at e2 ⊢
  have g2 := e2.1.2.2.2.2.1
  by_cases h8 : S 3 = 8
  · rw [if_pos h8]; exact it_bad h rfl rfl w3
  rw [if_neg h8]
  by_cases nh6 : ¬ (L1.1 = 6)
  · rw [if_neg nh6]; exact it_bad e1.1 rfl rfl w3
  have h6 := Classical.not_not.mp nh6
  rw [if_pos h6]
  unfold thiC
  by_cases nq : ¬ (isNum L2 35)
  · rw [if_neg nq]; exact it_bad e2.1 rfl rfl w3
  have q := Classical.not_not.mp nq
  rw [if_pos q]
  have q2 := q.2
  have e3 := lexN_B hT e2.1.2.2.1
  generalize lexN T l L2.2.2.1 = L3 at e3 ⊢
  have g3 := e3.1.2.2.2.2.1
  unfold thiF
  by_cases nh7 : ¬ (L3.1 = 7)
  · rw [if_neg nh7]
    exact it_good e3.1 (by omega) (addS_0 _ _ _ _) (Nat.le_succ _) (wf_add hS (by omega) hk (by omega) (by omega))
  have h7 := Classical.not_not.mp nh7
  rw [if_pos h7]
  have e4 := lexN_B hT e3.1.2.2.1
  generalize lexN T l L3.2.2.1 = L4 at e4 ⊢
  have g4 := e4.1.2.2.2.2.1
  by_cases nq7 : ¬ (isNum L4 7)
  · rw [if_neg nq7]; exact it_bad e4.1 rfl rfl w3
  have q7 := Classical.not_not.mp nq7
  rw [if_pos q7]
  have q72 := q7.2
  have e5 := lexN_B hT e4.1.2.2.1
  generalize lexN T l L4.2.2.1 = L5 at e5 ⊢
  exact it_good e5.1 (by omega) (addS_0 _ _ _ _) (Nat.le_succ _) (wf_add hS (by omega) hk (by omega) (by omega))
theorem iteM_ok {T S : Nat → Nat} (hT : ∀ j, T j < 256) {l : Nat} {L : Lx} (h : lxB l L) (hS : wfS S) : itOK l S L.2.2.1 (iteM T l S L) ∧ ((iteM T l S L).1 = 0 → L.1 ≤ 11) := by
  have w3 := hS.2.2.2.1
  have w2 := hS.2.2.1
  have n10 : ¬ (1 : Nat) = 0 := by decide
  by_cases k5 : L.1 ≤ 5
  · have e : iteM T l S L = thiM T l S L := by unfold iteM; rw [if_pos k5]
    rw [e]
    exact ⟨thiM_ok hT h hS k5, fun _ => by omega⟩
  have e1 := lexN_B hT h.2.2.1
  obtain ⟨L1, hL1⟩ : ∃ L1, lexN T l L.2.2.1 = L1 := ⟨_, rfl⟩
  rw [hL1] at e1
  have g1 := e1.1.2.2.2.2.1
  have e2 := lexN_B hT e1.1.2.2.1
  obtain ⟨L2, hL2⟩ : ∃ L2, lexN T l L1.2.2.1 = L2 := ⟨_, rfl⟩
  rw [hL2] at e2
  by_cases k8 : L.1 = 8
  · have e : iteM T l S L = rotM T l 7 0 S L1 := by unfold iteM; rw [if_neg k5, if_pos k8, hL1]
    rw [e]
    have r := rotM_B hT 7 0 S L1 e1.1
    have r3 := rotM_3 T l 7 0 S L1
    exact ⟨⟨r.1, r.2.2.1, fun _ => by omega, r.2.2.2, ⟨by omega, by omega⟩, rotM_wf 7 0 S _ (by omega) hS⟩, fun _ => by omega⟩
  by_cases k9 : L.1 = 9 ∨ L.1 = 10
  · have e : iteM T l S L = illM T l S (if L.1 = 9 then 1 else 0) L1 := by unfold iteM; rw [if_neg k5, if_neg k8, if_pos k9, hL1]
    rw [e]
    refine ⟨?_, fun _ => by omega⟩
    unfold illM
    by_cases q : isNum L1 7
    · rw [if_pos q, hL2]
      have q2 := q.2
      have z := sick_t (S 2) w2 L1.2.2.2 (by omega)
      refine it_good e2.1 (by omega) (vu_o (by omega)) (by rw [vu_o (by omega)]; exact Nat.le_refl _) (wf_sick hS ?_)
      split
      · exact z.2.2.2.2
      · exact z.2.2.2.1
    · rw [if_neg q]
      exact it_bad e1.1 rfl rfl w3
  by_cases k11 : L.1 = 11
  · have e : iteM T l S L = forM T l S L1 := by unfold iteM; rw [if_neg k5, if_neg k8, if_neg k9, if_pos k11, hL1]
    rw [e]
    refine ⟨?_, fun _ => by omega⟩
    unfold forM
    by_cases q : isNum L1 9
    · rw [if_pos q, hL2]
      exact it_good e2.1 (by omega) (vu_o (by omega)) (by rw [vu_o (by omega)]; exact Nat.le_refl _) (wf_force hS q.2)
    · rw [if_neg q]
      exact it_bad e1.1 (vu_o (by omega)) (vu_o (by omega)) w3
  have e : iteM T l S L = (1, S, L) := by unfold iteM; rw [if_neg k5, if_neg k8, if_neg k9, if_neg k11]
  rw [e]
  exact ⟨it_bad h rfl rfl w3, fun z => absurd z n10⟩
abbrev It : Type := Nat × (Nat → Nat) × Lx
def itL (T : Nat → Nat) (l : Nat) : Nat → Nat → It → Nat × It
  | 0, n, R => (n, R)
  | k + 1, n, R => if R.1 = 0 ∧ R.2.2.1 = 21 then itL T l k (n + 1) (iteM T l R.2.1 (lexN T l R.2.2.2.2.1)) else (n, R)
def seaR (T : Nat → Nat) (l : Nat) (S : Nat → Nat) : Nat × It := itL T l 121 1 (iteM T l S (lexN T l 0))
def oSea (A : gA) : Rs := if (seaR (aT A) (al A) (aS A)).2.1 = 0 ∧ (seaR (aT A) (al A) (aS A)).2.2.2.1 = 22 then (nI (seaR (aT A) (al A) (aS A)).1, sT (sS A (seaR (aT A) (al A) (aS A)).2.2.1) (aT A) 0) else (-1 - nI (seaR (aT A) (al A) (aS A)).2.2.2.2.1, sT A (aT A) 0)
/-- what holds between two items -/
def stOK (l : Nat) (S : Nat → Nat) (R : It) : Prop := lxB l R.2.2 ∧ R.1 < 2 ∧ R.2.1 0 = S 0 ∧ R.2.1 3 ≤ 8 ∧ (R.1 = 0 → wfS R.2.1)
theorem stOK_0 {T S : Nat → Nat} (hT : ∀ j, T j < 256) {l : Nat} (hS : wfS S) : stOK l S (iteM T l S (lexN T l 0)) := by
  have e := (iteM_ok hT (S := S) (lexN_B hT (Nat.zero_le l)).1 hS).1
  exact ⟨e.1, e.2.1, e.2.2.2.1, e.2.2.2.2.1.2, e.2.2.2.2.2⟩
theorem stOK_s {T S : Nat → Nat} (hT : ∀ j, T j < 256) {l : Nat} {R : It} (h : stOK l S R) (h0 : R.1 = 0) : stOK l S (iteM T l R.2.1 (lexN T l R.2.2.2.2.1)) := by
  have e := (iteM_ok hT (S := R.2.1) (lexN_B hT h.1.2.2.1).1 (h.2.2.2.2 h0)).1
  exact ⟨e.1, e.2.1, e.2.2.2.1.trans h.2.2.1, e.2.2.2.2.1.2, e.2.2.2.2.2⟩
theorem itL_ok {T S : Nat → Nat} (hT : ∀ j, T j < 256) {l : Nat} (k : Nat) : ∀ (n : Nat) (R : It), stOK l S R → stOK l S (itL T l k n R).2 := by
  induction k with
  | zero => intro n R h; exact h
  | succ k ih =>
    intro n R h
    unfold itL
    split
    · rename_i q; exact ih _ _ (stOK_s hT h q.1)
    · exact h
theorem seaR_ok {T S : Nat → Nat} (hT : ∀ j, T j < 256) {l : Nat} (hS : wfS S) : stOK l S (seaR T l S).2 := itL_ok hT 121 1 _ (stOK_0 hT hS)
theorem w_Sea {A : gA} (h : wfA A) : wfA (oSea A).2 := by
  have hT := h.2.2.2.2.2.1
  have e := seaR_ok (T := aT A) (l := al A) hT h.1
  unfold oSea
  split
  · rename_i q
    exact wfA_T (wfA_S h (e.2.2.2.2 q.1) (by rw [e.2.2.1]; exact h.2.1)) (Nat.zero_le _) hT
  · exact wfA_T h (Nat.zero_le _) hT
/-- another item begins behind the one before -/
theorem it_far {T S : Nat → Nat} (hT : ∀ j, T j < 256) {l : Nat} {R : It} (h : stOK l S R) (h0 : R.1 = 0) (h1 : (iteM T l R.2.1 (lexN T l R.2.2.2.2.1)).1 = 0) : R.2.2.2.2.1 < (iteM T l R.2.1 (lexN T l R.2.2.2.2.1)).2.2.2.1 := by
  have x := lexN_B hT h.1.2.2.1
  have e := iteM_ok hT (S := R.2.1) x.1 (h.2.2.2.2 h0)
  have f := e.1.2.2.1 h1
  have g := e.2 h1
  have y := x.1.2.2.2.2.2 (by omega)
  omega
theorem pm_le (M : gM) (S S' : Nat → Nat) (h : S 3 ≤ S' 3) : pm (pm M S) S' = pm M S' := putR_put M 16 0 S S' (by omega)
theorem mdlP_read {M M' : gM} {A : gA} {S : Nat → Nat} (h : mdlP M A) (hr : ∀ r i k, ¬ (r = 16 ∧ (i = 0 ∨ i = 2)) → ¬ (r = 15 ∧ 8 ≤ k) → M'.1 r i k = M.1 r i k) (h2 : M'.2 = M.2) (h8 : M'.1 15 0 8 = nI 0) (hS : rowP M' 0 S) : mdlP M' (sT (sS A S) (aT A) 0) := by
  obtain ⟨c1, c2, c3, c4, c5, c6, c7⟩ := h
  refine ⟨hS, fun z k hk => ?_, ?_, h8, fun j hj => absurd hj (by show ¬ j < 0; omega), ?_, ?_⟩
  · rw [hr 16 1 k (by omega) (by omega)]; exact c2 z k hk
  · rw [hr _ _ _ (by omega) (by omega)]; exact c3
  · intro s hs; rw [hr _ _ _ (by omega) (by omega), hr _ _ _ (by omega) (by omega), h2]; exact c6 s hs
  · intro n hn; rw [hr _ _ _ (by omega) (by omega)]; exact c7 n hn
