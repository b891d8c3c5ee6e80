/-! THE REFERENCE'S MEMORY: row 16,0 is the sea, 16,1 the kept one, 16,2 what was -/
def cpR (M : gM) (i j n : Nat) : gM := setI M 16 j (fun k => if k < n then M.1 16 i k else M.1 16 j k)
abbrev thM (M : gM) : gM := cpR M 0 2 43
abbrev bkM (M : gM) : gM := cpR M 2 0 43
abbrev pm (M : gM) (S : Nat → Nat) : gM := putR M 16 0 S (11 + 4 * S 3)
theorem cpR_r (M : gM) (i j n r' i' k' : Nat) : (cpR M i j n).1 r' i' k' = if r' = 16 ∧ i' = j ∧ k' < n then M.1 16 i k' else M.1 r' i' k' := by
  unfold cpR
  rw [setI_r]
  by_cases z : r' = 16 ∧ i' = j
  · obtain ⟨rfl, rfl⟩ := z
    rw [if_pos ⟨rfl, rfl⟩]
    by_cases y : k' < n
    · rw [if_pos y, if_pos ⟨rfl, rfl, y⟩]
    · rw [if_neg y, if_neg (fun h => y h.2.2)]
  · rw [if_neg z, if_neg (fun h => z ⟨h.1, h.2.1⟩)]
theorem cpR_2 (M : gM) (i j n : Nat) : (cpR M i j n).2 = M.2 := rfl
theorem cpR_z (M : gM) (i j : Nat) : cpR M i j 0 = M := by
  refine gM_ext (fun r' i' k' => ?_) rfl
  rw [cpR_r, if_neg (by omega)]
theorem cpR_grow (M : gM) {i j n : Nat} (h : ¬ i = j) : seti (cpR M i j n) 16 j n ((cpR M i j n).1 16 i n) = cpR M i j (n + 1) := by
  refine gM_ext (fun r' i' k' => ?_) rfl
  rw [cpR_r M i j n 16 i n, if_neg (show ¬ (16 = 16 ∧ i = j ∧ n < n) by omega), seti_r, cpR_r, cpR_r]
  by_cases z : r' = 16 ∧ i' = j ∧ k' = n
  · rw [if_pos z, if_pos (by omega), z.2.2]
  · rw [if_neg z]
    by_cases y : r' = 16 ∧ i' = j ∧ k' < n
    · rw [if_pos y, if_pos (by omega)]
    · rw [if_neg y, if_neg (by omega)]
theorem bk_seti (N : gM) {k : Nat} {x : Int32} (h : k < 43) : bkM (seti N 16 0 k x) = bkM N := by
  refine gM_ext (fun r' i' k' => ?_) rfl
  rw [cpR_r, cpR_r]
  by_cases z : r' = 16 ∧ i' = 0 ∧ k' < 43
  · rw [if_pos z, if_pos z, seti_r, if_neg (by omega)]
  · rw [if_neg z, if_neg z, seti_r, if_neg (by omega)]
theorem bk_put (N : gM) (K : Nat → Nat) {n : Nat} (h : n ≤ 43) : bkM (putR N 16 0 K n) = bkM N := by
  refine gM_ext (fun r' i' k' => ?_) rfl
  rw [cpR_r, cpR_r]
  by_cases z : r' = 16 ∧ i' = 0 ∧ k' < 43
  · rw [if_pos z, if_pos z, putR_r, if_neg (by omega)]
  · rw [if_neg z, if_neg z, putR_r, if_neg (by omega)]
theorem bk_th (M : gM) : bkM (thM M) = thM M := by
  refine gM_ext (fun r' i' k' => ?_) rfl
  rw [cpR_r, cpR_r, cpR_r]
  by_cases z : r' = 16 ∧ i' = 0 ∧ k' < 43
  · obtain ⟨rfl, rfl, z⟩ := z
    rw [if_pos ⟨rfl, rfl, z⟩, if_pos ⟨rfl, rfl, z⟩, if_neg (by omega)]
  · rw [if_neg z]
def scY (r i k : Nat) : Prop := (r = 16 ∧ i = 2) ∨ r = 18 ∨ (r = 15 ∧ 9 ≤ k)
def eqY (M M' : gM) : Prop := (∀ r i k, ¬ scY r i k → M'.1 r i k = M.1 r i k) ∧ M'.2 = M.2
theorem eqY.rf (M : gM) : eqY M M := ⟨fun _ _ _ _ => rfl, rfl⟩
theorem eqY.tr {M N L : gM} (h : eqY M N) (g : eqY N L) : eqY M L := ⟨fun r i k z => (g.1 r i k z).trans (h.1 r i k z), g.2.trans h.2⟩
theorem eqY_th (M : gM) : eqY M (thM M) := ⟨fun r i k z => by rw [cpR_r, if_neg (fun e => z (Or.inl ⟨e.1, e.2.1⟩))], rfl⟩
theorem eqY_seti (M : gM) {r i k : Nat} {x : Int32} (h : scY r i k) : eqY M (seti M r i k x) := ⟨fun r' i' k' z => by rw [seti_r, if_neg (fun e => z (by rw [e.1, e.2.1, e.2.2]; exact h))], rfl⟩
theorem eqY_putR (M : gM) (i : Nat) (K : Nat → Nat) (n : Nat) : eqY M (putR M 18 i K n) := ⟨fun r' i' k' z => by rw [putR_r, if_neg (fun e => z (Or.inr (Or.inl e.1)))], rfl⟩
theorem eqY.keepC {M M' : gM} (h : eqY M M') : keepC M M' := fun r hr => ⟨by funext i k; exact h.1 r i k (by unfold scY; omega), by rw [h.2]⟩
theorem rowP_eqY {M M' : gM} {S : Nat → Nat} (h : eqY M M') (c : rowP M 0 S) : rowP M' 0 S := fun k hk => by rw [h.1 16 0 k (by unfold scY; omega)]; exact c k hk
theorem mdlP_eqY {M M' : gM} {A : gA} (h : eqY M M') (c : mdlP M A) : mdlP M' A := by
  obtain ⟨c1, c2, c3, c4, c5, c6, c7⟩ := c
  refine ⟨rowP_eqY h c1, fun z k hk => ?_, ?_, ?_, ?_, ?_, ?_⟩
  · rw [h.1 16 1 k (by unfold scY; omega)]; exact c2 z k hk
  · rw [h.1 15 0 3 (by unfold scY; omega)]; exact c3
  · rw [h.1 15 0 8 (by unfold scY; omega)]; exact c4
  · intro j hj; rw [h.1 19 0 j (by unfold scY; omega)]; exact c5 j hj
  · intro s hs; rw [h.1 20 0 s (by unfold scY; omega), h.1 20 1 s (by unfold scY; omega), h.2]; exact c6 s hs
  · intro n hn; rw [h.1 17 0 n (by unfold scY; omega)]; exact c7 n hn
theorem Qm_eqY {M M' : gM} {A : gA} {R : Rs} {v : Int32} (h : eqY M M') (c : mdlP M A) (hR : R = (v, A)) : Qm M R (some (.int v)) M' := by
  subst hR
  exact ⟨rfl, mdlP_eqY h c, h.keepC⟩
theorem Qm_fndY {M M' : gM} {A : gA} {n : Nat} {R : Rs} (h : eqY M M') (c : mdlP M A) (hn : n < 7) (hR : R = fnd A n) : Qm M R (some (.int (-1000000001 - nI n))) (seti M' 17 0 n (M'.1 17 0 n + nI 1)) := by
  subst hR
  exact ⟨rfl, mdlP_fnd (mdlP_eqY h c) hn, h.keepC.tr (keepC_seti M' 0 n _ (by omega))⟩
/-- the sea alone became another -/
theorem mdlP_sea {M M' : gM} {A : gA} {S : Nat → Nat} (h : mdlP M A) (hr : ∀ r i k, ¬ (r = 16 ∧ i = 0) → M'.1 r i k = M.1 r i k) (h2 : M'.2 = M.2) (hS : rowP M' 0 S) : mdlP M' (sS A S) := by
  obtain ⟨c1, c2, c3, c4, c5, c6, c7⟩ := h
  refine ⟨hS, fun z k hk => ?_, ?_, ?_, ?_, ?_, ?_⟩
  · rw [hr 16 1 k (by omega)]; exact c2 z k hk
  · rw [hr _ _ _ (by omega)]; exact c3
  · rw [hr _ _ _ (by omega)]; exact c4
  · intro j hj; rw [hr _ _ _ (by omega)]; exact c5 j hj
  · intro s hs; rw [hr _ _ _ (by omega), hr _ _ _ (by omega), h2]; exact c6 s hs
  · intro n hn; rw [hr _ _ _ (by omega)]; exact c7 n hn
theorem keepC_row {M M' : gM} (hr : ∀ r i k, ¬ (r = 16 ∧ i = 0) → M'.1 r i k = M.1 r i k) (h2 : M'.2 = M.2) : keepC M M' := fun r hr' => ⟨by funext i k; exact hr r i k (by omega), by rw [h2]⟩
theorem seti_160 (M : gM) (k : Nat) (x : Int32) : ∀ r i j, ¬ (r = 16 ∧ i = 0) → (seti M 16 0 k x).1 r i j = M.1 r i j := fun r i j h => by rw [seti_r, if_neg (fun e => h ⟨e.1, e.2.1⟩)]
theorem putR_160 (M : gM) (K : Nat → Nat) (n : Nat) : ∀ r i j, ¬ (r = 16 ∧ i = 0) → (putR M 16 0 K n).1 r i j = M.1 r i j := fun r i j h => putR_far M K n h j
theorem rowP_pm (M : gM) (S : Nat → Nat) : rowP (pm M S) 0 S := fun k hk => putR_at M 16 0 S hk
theorem rowP_up {M : gM} {S : Nat → Nat} (h : rowP M 0 S) {k v : Nat} (hk3 : ¬ k = 3) : rowP (seti M 16 0 k (nI v)) 0 (va_up S k v) := by
  intro j hj
  rw [vu_o (by omega)] at hj
  rw [seti_r, vu_r]
  by_cases z : j = k
  · rw [if_pos ⟨rfl, rfl, z⟩, if_pos z]
  · rw [if_neg (fun e => z e.2.2), if_neg z]; exact h j hj
theorem pm_id {M : gM} {S : Nat → Nat} (h : rowP M 0 S) : pm M S = M := putR_id h
theorem pm_seti (M : gM) (S : Nat → Nat) {k v : Nat} (hk : k < 11 + 4 * S 3) (hk3 : ¬ k = 3) : seti (pm M S) 16 0 k (nI v) = pm M (va_up S k v) := by
  show _ = putR M 16 0 (va_up S k v) (11 + 4 * va_up S k v 3)
  rw [vu_o (by omega)]
  exact putR_seti M 16 0 S hk
theorem pm_pm (M : gM) (S S' : Nat → Nat) (h : S 3 = S' 3) : pm (pm M S) S' = pm M S' := putR_put M 16 0 S S' (by omega)
theorem rowP_add {M : gM} {S : Nat → Nat} {k c f : Nat} (h : rowP M 0 S) : rowP (seti (seti (seti (seti (seti M 16 0 3 (nI (S 3 + 1))) 16 0 (11 + 4 * S 3 + 0) (nI k)) 16 0 (11 + 4 * S 3 + 1) (nI c)) 16 0 (11 + 4 * S 3 + 2) (nI f)) 16 0 (11 + 4 * S 3 + 3) (nI 0)) 0 (addS S k c f) := by
  intro j hj
  have e3 : addS S k c f 3 = S 3 + 1 := rfl
  rw [e3] at hj
  rw [seti_r, seti_r, seti_r, seti_r, seti_r]
  unfold addS
  by_cases a3 : j = 3
  · subst a3
    rw [if_neg (by omega), if_neg (by omega), if_neg (by omega), if_neg (by omega), if_pos ⟨rfl, rfl, rfl⟩, if_pos rfl]
  by_cases b3 : j = 11 + 4 * S 3 + 3
  · subst b3
    rw [if_pos ⟨rfl, rfl, rfl⟩, if_neg (by omega), if_neg (by omega), if_neg (by omega), if_neg (by omega), if_pos rfl]
  by_cases b2 : j = 11 + 4 * S 3 + 2
  · subst b2
    rw [if_neg (by omega), if_pos ⟨rfl, rfl, rfl⟩, if_neg (by omega), if_neg (by omega), if_neg (by omega), if_pos rfl]
  by_cases b1 : j = 11 + 4 * S 3 + 1
  · subst b1
    rw [if_neg (by omega), if_neg (by omega), if_pos ⟨rfl, rfl, rfl⟩, if_neg (by omega), if_neg (by omega), if_pos rfl]
  by_cases b0 : j = 11 + 4 * S 3
  · subst b0
    rw [if_neg (by omega), if_neg (by omega), if_neg (by omega), if_pos ⟨rfl, rfl, rfl⟩, if_neg (by omega), if_pos rfl]
  · rw [if_neg (by omega), if_neg (by omega), if_neg (by omega), if_neg (by omega), if_neg (by omega), if_neg a3, if_neg b0, if_neg b1, if_neg b2, if_neg b3]
    exact h j (by omega)
theorem held9 {a b : Nat} (ha : a ≤ 9) (hb : b < 1000) : (if (nI a - nI b).toInt < (nI 0).toInt then nI 0 else if (nI 9).toInt < (nI a - nI b).toInt then nI 9 else nI a - nI b) = nI (a - b) := by
  have h := pk_sub_toInt (a := a) (b := b) (by omega) (by omega)
  rw [h, cv_0, show (nI 9).toInt = 9 from by decide]
  by_cases q : a < b
  · rw [if_pos (by omega), show a - b = 0 by omega]
  · rw [if_neg (by omega), if_neg (by omega), pk_sub (by omega)]
theorem heldS {a : Nat} (ha : a < 2 ^ 30) : (if (nI a).toInt < (nI 0).toInt then nI 0 else if (nI 99999).toInt < (nI a).toInt then nI 99999 else nI a) = nI (if 99999 < a then 99999 else a) := by
  rw [nI_toInt (by omega), cv_0, show (nI 99999).toInt = 99999 from by decide, if_neg (by omega)]
  by_cases q : 99999 < a
  · rw [if_pos (by omega), if_pos q]
  · rw [if_neg (by omega), if_neg q]
