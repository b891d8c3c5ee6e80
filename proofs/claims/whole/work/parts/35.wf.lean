/-! EVERY CALL KEEPS A WELL-FORMED STATE WELL FORMED -/
theorem wfA_fnd {A : gA} {n : Nat} (h : wfA A) : wfA (fnd A n).2 := h
theorem wfA_fndL {A : gA} {n : Nat} (h : wfA A) : wfA (fndL A n).2 := h
theorem wfA_S {A : gA} {S : Nat → Nat} (h : wfA A) (hS : wfS S) (h0 : S 0 ≤ 9999) : wfA (sS A S) := ⟨hS, h0, h.2.2⟩
theorem wfA_T {A : gA} {T : Nat → Nat} {l : Nat} (h : wfA A) (hl : l ≤ 120) (hT : ∀ j, T j < 256) : wfA (sT A T l) := ⟨h.1, h.2.1, h.2.2.1, h.2.2.2.1, hl, hT, h.2.2.2.2.2.2⟩
theorem wfA_B {A : gA} {b z : Nat → Nat} {n : Nat → Nat → Int64} (h : wfA A) (hs : ∀ s, s < 4 → (b s = 0 ∨ b s = 8 ∨ b s = 16 ∨ b s = 64) ∧ z s ≤ 40) : wfA (sB A b z n) := ⟨h.1, h.2.1, h.2.2.1, h.2.2.2.1, h.2.2.2.2.1, h.2.2.2.2.2.1, hs⟩
theorem uN_le {x : Int32} {n : Nat} (h : x.toInt ≤ n) : uN x ≤ n := by unfold uN; omega
theorem uN_i {x : Int32} (h : 0 ≤ x.toInt) : ((uN x : Nat) : Int) = x.toInt := by unfold uN; omega
theorem addS_0 (S : Nat → Nat) (k c f : Nat) : addS S k c f 0 = S 0 := by
  unfold addS
  rw [if_neg (by omega), if_neg (by omega), if_neg (by omega), if_neg (by omega), if_neg (by omega)]
theorem wf_add {S : Nat → Nat} (h : wfS S) {k c f : Nat} (h8 : S 3 < 8) (hk : k ≤ 5) (hc : c < 36) (hf : f < 8) : wfS (addS S k c f) := by
  obtain ⟨w0, w1, w2, w3, wr, wt⟩ := h
  have e : ∀ x, ¬ x = 3 → (x < 11 + 4 * S 3) → addS S k c f x = S x := fun x a b => by
    unfold addS
    rw [if_neg a, if_neg (by omega), if_neg (by omega), if_neg (by omega), if_neg (by omega)]
  have e3 : addS S k c f 3 = S 3 + 1 := rfl
  refine ⟨by rw [e 0 (by omega) (by omega)]; exact w0, by rw [e 1 (by omega) (by omega)]; exact w1, by rw [e 2 (by omega) (by omega)]; exact w2, by omega, fun d hd => by rw [e _ (by omega) (by omega)]; exact wr d hd, fun t ht => ?_⟩
  by_cases q : t < S 3
  · rw [e _ (by omega) (by omega), e _ (by omega) (by omega), e _ (by omega) (by omega), e _ (by omega) (by omega)]
    exact wt t q
  · obtain rfl : t = S 3 := by omega
    unfold addS
    rw [if_neg (by omega), if_pos rfl, if_neg (by omega), if_neg (by omega), if_pos rfl, if_neg (by omega), if_neg (by omega), if_neg (by omega), if_pos rfl, if_neg (by omega), if_neg (by omega), if_neg (by omega), if_neg (by omega), if_pos rfl]
    omega
theorem layS_0 (S : Nat → Nat) (f : Nat → Int64) (n : Nat) : (layS S f n).2 0 = S 0 := by
  induction n with
  | zero => rfl
  | succ n ih =>
    unfold layS
    split
    · show va_up _ _ _ 0 = S 0
      rw [vu_o (by omega)]; exact ih
    · exact ih
theorem w_RotaOf {A : gA} {x : Int32} (h : wfA A) : wfA (oRotaOf A x).2 := by
  unfold oRotaOf
  (repeat' split) <;> first | exact h | exact wfA_fnd h
theorem w_Blows {A : gA} {x : Int32} (h : wfA A) : wfA (oBlows A x).2 := by
  unfold oBlows
  (repeat' split) <;> first | exact h | exact wfA_fnd h
theorem w_Lee {A : gA} {x y : Int32} (h : wfA A) : wfA (oLee A x y).2 := by
  unfold oLee
  (repeat' split) <;> first | exact h | exact wfA_fnd h
theorem w_Of {A : gA} {x y : Int32} (h : wfA A) : wfA (oOf A x y).2 := by
  unfold oOf
  (repeat' split) <;> first | exact h | exact wfA_fnd h
theorem w_As {A : gA} {x y : Int32} (h : wfA A) : wfA (oAs A x y).2 := by
  unfold oAs
  (repeat' split) <;> first | exact h | exact wfA_fnd h
theorem w_Now {A : gA} {x : Int32} (h : wfA A) : wfA (oNow A x).2 := by
  unfold oNow
  (repeat' split) <;> first | exact h | exact wfA_fnd h
theorem w_On {A : gA} {x y z : Int32} (h : wfA A) : wfA (oOn A x y z).2 := by
  unfold oOn
  (repeat' split) <;> first | exact h | exact wfA_fnd h
theorem w_Comes {A : gA} {x y : Int32} (h : wfA A) : wfA (oComes A x y).2 := by
  unfold oComes
  (repeat' split) <;> first | exact h | exact wfA_fnd h
theorem w_Meet {A : gA} {x y : Int32} (h : wfA A) : wfA (oMeet A x y).2 := by
  unfold oMeet
  (repeat' split) <;> first | exact h | exact wfA_fnd h
theorem w_Bribes {A : gA} {x y z : Int32} (h : wfA A) : wfA (oBribes A x y z).2 := by
  unfold oBribes
  (repeat' split) <;> first | exact h | exact wfA_fnd h
theorem w_Soonest {A : gA} {x y z : Int32} (h : wfA A) : wfA (oSoonest A x y z).2 := by
  unfold oSoonest
  (repeat' split) <;> first | exact h | exact wfA_fnd h
theorem w_Reach {A : gA} {x y : Int32} (h : wfA A) : wfA (oReach A x y).2 := by
  unfold oReach
  (repeat' split) <;> first | exact h | exact wfA_fnd h
theorem w_Swap {A : gA} {x : Int32} (h : wfA A) : wfA (oSwap A x).2 := by
  unfold oSwap
  (repeat' split) <;> first | exact h | exact wfA_fnd h
theorem w_Missed {A : gA} {x : Int32} (h : wfA A) : wfA (oMissed A x).2 := by
  unfold oMissed
  (repeat' split) <;> first | exact h | exact wfA_fnd h
theorem w_Enough {A : gA} {x y : Int32} (h : wfA A) : wfA (oEnough A x y).2 := by
  unfold oEnough
  (repeat' split) <;> first | exact h | exact wfA_fnd h
theorem w_Kind {A : gA} {x y : Int32} (h : wfA A) : wfA (oKind A x y).2 := by
  unfold oKind
  (repeat' split) <;> first | exact h | exact wfA_fnd h
theorem w_Facing {A : gA} {x y : Int32} (h : wfA A) : wfA (oFacing A x y).2 := by
  unfold oFacing
  (repeat' split) <;> first | exact h | exact wfA_fnd h
theorem w_Best {A : gA} {x y : Int32} (h : wfA A) : wfA (oBest A x y).2 := by
  unfold oBest
  (repeat' split) <;> first | exact h | exact wfA_fnd h
theorem w_Read {A : gA} {x y : Int32} (h : wfA A) : wfA (oRead A x y).2 := by
  unfold oRead
  (repeat' split) <;> first | exact h | exact wfA_fnd h
theorem w_Count {A : gA} {x : Int32} (h : wfA A) : wfA (oCount A x).2 := by
  unfold oCount
  (repeat' split) <;> first | exact h | exact wfA_fnd h
theorem w_Status {A : gA} {x : Int32} (h : wfA A) : wfA (oStatus A x).2 := by
  unfold oStatus
  (repeat' split) <;> first | exact h | exact wfA_fnd h
theorem w_Rota {A : gA} {x y : Int32} (h : wfA A) : wfA (oRota A x y).2 := by
  obtain ⟨w0, w1, w2, w3, wr, wt⟩ := id h.1
  unfold oRota
  by_cases q : okI x 0 6 ∧ okI y 0 8
  · rw [if_pos q]
    exact wfA_S h (wf_rota h.1 (by have := uN_le (n := 6) q.1.2; omega) (uN_le q.2.2)) (by rw [vu_o (by omega)]; exact h.2.1)
  · rw [if_neg q]
    exact wfA_fnd h
theorem w_Sick {A : gA} {x y : Int32} (h : wfA A) : wfA (oSick A x y).2 := by
  obtain ⟨w0, w1, w2, w3, wr, wt⟩ := id h.1
  unfold oSick
  by_cases q : okI x 0 7 ∧ okI y 0 1
  · rw [if_pos q]
    have hx := uN_le (n := 7) q.1.2
    have hy := uN_le (n := 1) q.2.2
    have z := sick_t (aS A 2) w2 (uN x) (by omega)
    exact wfA_S h (wf_sick h.1 (by rcases (show uN y = 0 ∨ uN y = 1 by omega) with e | e <;> rw [e] <;> first | exact z.2.2.2.1 | exact z.2.2.2.2)) (by rw [vu_o (by omega)]; exact h.2.1)
  · rw [if_neg q]
    exact wfA_fnd h
theorem w_Force {A : gA} {x : Int32} (h : wfA A) : wfA (oForce A x).2 := by
  obtain ⟨w0, w1, w2, w3, wr, wt⟩ := id h.1
  unfold oForce
  by_cases q : okI x 0 9
  · rw [if_pos q]
    exact wfA_S h (wf_force h.1 (uN_le q.2)) (by rw [vu_o (by omega)]; exact h.2.1)
  · rw [if_neg q]
    exact wfA_fnd h
theorem w_Thing {A : gA} {x y : Int32} (h : wfA A) : wfA (oThing A x y).2 := by
  obtain ⟨w0, w1, w2, w3, wr, wt⟩ := id h.1
  unfold oThing
  by_cases q : okI x 0 5 ∧ okI y 0 35
  · rw [if_pos q]
    by_cases q2 : aS A 3 = 8
    · rw [if_pos q2]; exact wfA_fnd h
    · rw [if_neg q2]
      have hy := uN_le (n := 35) q.2.2
      exact wfA_S h (wf_add h.1 (by omega) (uN_le q.1.2) (by omega) (by decide)) (by rw [addS_0]; exact h.2.1)
  · rw [if_neg q]
    exact wfA_fnd h
theorem w_Set {A : gA} {x y z : Int32} (h : wfA A) : wfA (oSet A x y z).2 := by
  obtain ⟨w0, w1, w2, w3, wr, wt⟩ := id h.1
  unfold oSet
  by_cases q : okT A x ∧ okI y 1 3 ∧ okI z 0 (mostN (uN y))
  · rw [if_pos q]
    have e := uN_i q.1.1
    have ht := q.1.2
    have hy := uN_le (n := 3) q.2.1.2
    have hy2 := uN_i (x := y) (by have := q.2.1.1; omega)
    have hy1 := q.2.1.1
    have hz := uN_le (n := mostN (uN y)) q.2.2.2
    unfold mostN at hz
    refine wfA_S h (wf_th h.1 (by omega) (by omega) ?_) (by rw [vu_o (by omega)]; exact h.2.1)
    refine ⟨fun z => by omega, fun z => by rw [if_pos z] at hz; omega, fun z => by rw [if_neg (by omega), if_pos z] at hz; omega, fun z => by rw [if_neg (by omega), if_neg (by omega)] at hz; omega⟩
  · rw [if_neg q]
    exact wfA_fnd h
theorem w_Turn {A : gA} {x y : Int32} (h : wfA A) : wfA (oTurn A x y).2 := by
  obtain ⟨w0, w1, w2, w3, wr, wt⟩ := id h.1
  unfold oTurn
  by_cases q : okT A x ∧ okI y 0 5
  · rw [if_pos q]
    have e := uN_i q.1.1
    have ht := q.1.2
    have hy := uN_le (n := 5) q.2.2
    have z := wf_th h.1 (t := uN x) (w := 0) (v := uN y) (by omega) (by decide) (by omega)
    rw [Nat.add_zero] at z
    exact wfA_S h z (by rw [vu_o (by omega)]; exact h.2.1)
  · rw [if_neg q]
    exact wfA_fnd h
theorem w_Days {A : gA} {x : Int32} (h : wfA A) : wfA (oDays A x).2 := by
  obtain ⟨w0, w1, w2, w3, wr, wt⟩ := id h.1
  unfold oDays
  by_cases q : okI x 1 60
  · rw [if_pos q]
    by_cases q2 : 9999 < aS A 0 + uN x
    · rw [if_pos q2]; exact wfA_fnd h
    · rw [if_neg q2]
      exact wfA_S h (wf_dayN h.1 (by omega)) (by rw [dayN_0]; omega)
  · rw [if_neg q]
    exact wfA_fnd h
theorem w_Bribe {A : gA} {x : Int32} (h : wfA A) : wfA (oBribe A x).2 := by
  obtain ⟨w0, w1, w2, w3, wr, wt⟩ := id h.1
  unfold oBribe
  by_cases q : okI x 0 7
  · rw [if_pos q]
    by_cases q2 : aS A 0 = 9999
    · rw [if_pos q2]; exact wfA_fnd h
    · rw [if_neg q2]
      have := h.2.1
      exact wfA_S h (wf_dayW h.1 (by omega)) (by rw [dayW_0]; omega)
  · rw [if_neg q]
    exact wfA_fnd h
theorem w_Feed {A : gA} {x y : Int32} (h : wfA A) : wfA (oFeed A x y).2 := by
  obtain ⟨w0, w1, w2, w3, wr, wt⟩ := id h.1
  unfold oFeed
  by_cases q : okI y 1 4
  · rw [if_pos q]
    by_cases q2 : 120 < al A + uN y
    · rw [if_pos q2]; exact wfA_fnd h
    · rw [if_neg q2]
      refine wfA_T h (by omega) (fun j => ?_)
      show (if _ then _ else _) < 256
      split
      · exact Nat.mod_lt _ (by decide)
      · exact h.2.2.2.2.2.1 j
  · rw [if_neg q]
    exact wfA_fnd h
theorem w_Wipe {A : gA} (h : wfA A) : wfA (oWipe A).2 := by
  exact wfA_T h (by omega) h.2.2.2.2.2.1
theorem w_Sheet {A : gA} {x y z : Int32} (h : wfA A) : wfA (oSheet A x y z).2 := by
  obtain ⟨w0, w1, w2, w3, wr, wt⟩ := id h.1
  unfold oSheet
  by_cases q : okI x 0 3 ∧ (y = nI 0 ∨ y = nI 8 ∨ y = nI 16 ∨ y = nI 64)
  · rw [if_pos q]
    by_cases q2 : z.toInt < 0
    · rw [if_pos q2]; exact wfA_fnd h
    · rw [if_neg q2]
      by_cases q3 : 40 < z.toInt
      · rw [if_pos q3]; exact wfA_fnd h
      · rw [if_neg q3]
        refine wfA_B h (fun s hs => ?_)
        by_cases e : s = uN x
        · rw [e, vu_s, vu_s]
          have hz := uN_le (x := z) (n := 40) (by omega)
          refine ⟨?_, by split <;> omega⟩
          rcases q.2 with r | r | r | r <;> rw [r, uN_nI (by decide)] <;> omega
        · rw [vu_o e, vu_o e]
          exact h.2.2.2.2.2.2 s hs
  · rw [if_neg q]
    exact wfA_fnd h
theorem w_Copy {A : gA} {a b c d e : Int32} (h : wfA A) : wfA (oCopy A a b c d e).2 := by
  have hs := h.2.2.2.2.2.2
  unfold oCopy
  (repeat' split) <;> first | with_reducible exact wfA_fnd h | with_reducible exact wfA_B h hs
theorem w_Write {A : gA} {x y : Int32} {v : Int64} (h : wfA A) : wfA (oWrite A x y v).2 := by
  have hs := h.2.2.2.2.2.2
  unfold oWrite
  (repeat' split) <;> first | with_reducible exact wfA_fndL h | with_reducible exact wfA_B h hs
theorem w_Lays {A : gA} {x : Int32} (h : wfA A) : wfA (oLays A x).2 := by
  obtain ⟨w0, w1, w2, w3, wr, wt⟩ := id h.1
  unfold oLays
  by_cases q : okI x 0 3
  · rw [if_pos q]
    by_cases q2 : ab A (uN x) = 0
    · rw [if_pos q2]; exact wfA_fnd h
    · rw [if_neg q2]
      have hn : (if az A (uN x) < 7 then az A (uN x) else 7) ≤ 7 := by split <;> omega
      exact wfA_S h (wf_layS h.1 _ _ hn) (by rw [layS_0]; exact h.2.1)
  · rw [if_neg q]
    exact wfA_fnd h
theorem w_Book {A : gA} {x y : Int32} (h : wfA A) : wfA (oBook A x y).2 := by
  have hs := h.2.2.2.2.2.2
  unfold oBook
  (repeat' split) <;> first | with_reducible exact wfA_fnd h | with_reducible exact wfA_B h hs
theorem w_Image {A : gA} (h : wfA A) : wfA (oImage A).2 := by
  exact ⟨h.1, h.2.1, fun _ => ⟨h.1, h.2.1⟩, by show (1 : Nat) < 2; decide, h.2.2.2.2⟩
theorem w_Undo {A : gA} (h : wfA A) : wfA (oUndo A).2 := by
  unfold oUndo
  by_cases q : ak A = 1
  · rw [if_pos q]
    exact wfA_S h (h.2.2.1 q).1 (h.2.2.1 q).2
  · rw [if_neg q]
    exact wfA_fnd h
theorem w_Tear {A : gA} (h : wfA A) : wfA (oTear A).2 := by
  exact ⟨h.1, h.2.1, fun q => absurd q (by show ¬ (0 : Nat) = 1; decide), by show (0 : Nat) < 2; decide, h.2.2.2.2⟩
