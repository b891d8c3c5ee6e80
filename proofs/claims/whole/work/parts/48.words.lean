/-! WORDS: the class's way (as long, byte by byte) and the reference's (the first name that fits) -/
theorem nm_f : ∀ w, w < 12 → kLen.getD w 0 ≤ 7 ∧ 2 ≤ kLen.getD w 0 ∧ (kLen.getD w 0 = 7 ∨ nm w (kLen.getD w 0) = 0) ∧ ∀ k, k < 7 → k < kLen.getD w 0 → ¬ nm w k = 0 := by decide +kernel
theorem nm_u : ∀ w, w < 12 → ∀ w', w' < 12 → kLen.getD w 0 = kLen.getD w' 0 → (∀ k, k < 7 → k < kLen.getD w 0 → nm w k = nm w' k) → w = w' := by decide +kernel
def wEq (T : Nat → Nat) (b n w : Nat) : Prop := n = kLen.getD w 0 ∧ ∀ k, k < n → nm w k = T (b + k)
theorem matN_a {T : Nat → Nat} {b w : Nat} (n : Nat) : matN T b w n = true ↔ ∀ k, k < n → nm w k = T (b + k) := by
  induction n with
  | zero => exact ⟨fun _ k hk => absurd hk (by omega), fun _ => rfl⟩
  | succ n ih =>
    rw [matN_s, ih]
    refine ⟨fun h k hk => ?_, fun h => ⟨fun k hk => h k (by omega), h n (by omega)⟩⟩
    by_cases q : k = n
    · rw [q]; exact h.2
    · exact h.1 k (by omega)
theorem wIs_e {T : Nat → Nat} {b n w : Nat} (hw : w < 12) (hz : ∀ k, k < n → ¬ T (b + k) = 0) : wIs T b n w = true ↔ wEq T b n w := by
  obtain ⟨f1, f2, f3, f4⟩ := nm_f w hw
  rw [wIs_i, matN_a]
  unfold wEq
  refine ⟨fun h => ⟨?_, h.2⟩, fun h => ⟨?_, h.2⟩⟩
  · obtain ⟨⟨h1, h2⟩, h3⟩ := h
    rcases Nat.lt_trichotomy n (kLen.getD w 0) with q | q | q
    · have := f4 n (by omega) q
      omega
    · exact q
    · have e := h3 (kLen.getD w 0) q
      have := hz (kLen.getD w 0) q
      omega
  · rw [h.1]; exact ⟨f1, f3⟩
theorem wEq_u {T : Nat → Nat} {b n w w' : Nat} (hw : w < 12) (hw' : w' < 12) (h : wEq T b n w) (h' : wEq T b n w') : w = w' :=
  nm_u w hw w' hw' (h.1.symm.trans h'.1) (fun k _ hk => by have hk : k < n := by rw [h.1]; exact hk
                                                           rw [h.2 k hk, h'.2 k hk])
theorem first_p (p : Nat → Bool) (k : Nat) : ∀ d, firstN p k d < d + k → p (firstN p k d) = true := by
  induction k with
  | zero => intro d h; exact absurd h (by unfold firstN; omega)
  | succ k ih =>
    intro d h
    unfold firstN at h ⊢
    by_cases q : p d = true
    · rw [if_pos q]; exact q
    · rw [if_neg q] at h ⊢
      exact ih (d + 1) (by omega)
theorem first_h (p : Nat → Bool) (k : Nat) : ∀ d w, d ≤ w → w < d + k → p w = true → firstN p k d < d + k := by
  induction k with
  | zero => intro d w h1 h2 _; omega
  | succ k ih =>
    intro d w h1 h2 hp
    unfold firstN
    by_cases q : p d = true
    · rw [if_pos q]; omega
    · rw [if_neg q]
      have : ¬ d = w := fun e => q (by rw [e]; exact hp)
      have := ih (d + 1) w (by omega) (by omega) hp
      omega
theorem word_e {T : Nat → Nat} {b n w : Nat} (hw : w < 12) (hz : ∀ k, k < n → ¬ T (b + k) = 0) : wordOf T b n = w ↔ wEq T b n w := by
  have fl := first_le (wIs T b n) 12 0
  unfold wordOf
  constructor
  · intro h
    by_cases q : firstN (wIs T b n) 12 0 = 12
    · rw [if_pos q] at h; omega
    · rw [if_neg q] at h
      have := first_p (wIs T b n) 12 0 (by omega)
      rw [h] at this
      exact (wIs_e hw hz).mp this
  · intro h
    have a := first_h (wIs T b n) 12 0 w (by omega) (by omega) ((wIs_e hw hz).mpr h)
    have p := first_p (wIs T b n) 12 0 (by omega)
    rw [if_neg (by omega)]
    exact wEq_u (by omega) hw ((wIs_e (by omega) hz).mp p) h
/-- a token is the word w: so the class asks, and so -/
theorem lx_word {T : Nat → Nat} {l : Nat} {L : Lx} (h : isLx T l L) {w : Nat} (hw : w < 12) : L.1 = w ↔ kC T l L.2.1 = 1 ∧ wEq T L.2.1 (L.2.2.1 - L.2.1) w := by
  obtain ⟨b, hb, rfl⟩ := isLx_b h
  rw [lexB_b]
  unfold lexB kC
  by_cases e : b = l
  · rw [if_pos e, if_pos e]; dsimp only; omega
  rw [if_neg e, if_neg e]
  by_cases e2 : cLe (T b) = true
  · rw [if_pos e2, tok_1.mpr e2]
    dsimp only
    have hz : ∀ k, k < run cLe T l b - b → ¬ T (b + k) = 0 := fun k hk => by
      have := run_all (c := cLe) (T := T) (l := l) (l - b) b rfl (b + k) (by omega) (by omega)
      rw [cLe_i] at this
      omega
    rw [word_e hw hz]
    exact ⟨fun z => ⟨rfl, z⟩, fun z => z.2⟩
  rw [if_neg e2]
  have n1 : ¬ tokC (T b) = 1 := fun z => e2 (tok_1.mp z)
  by_cases e3 : cDi (T b) = true
  · rw [if_pos e3]; dsimp only; exact ⟨fun z => by omega, fun z => absurd z.1 n1⟩
  rw [if_neg e3]
  dsimp only
  refine ⟨fun z => ?_, fun z => absurd z.1 n1⟩
  split at z <;> omega
