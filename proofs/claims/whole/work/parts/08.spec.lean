/-! THE MATHEMATICS: a sea is a row S of numbers: 0 day, 1 force, 2 sick, 3 how many things, 4.. rota, 11 + 4 t + (0 kind, 1 cell, 2 facing, 3 sum) of thing t -/
def offN (f w : Nat) : Nat := if w = 8 then 4 else if f < w then (if 4 < w - f then 8 - (w - f) else w - f) else (if 4 < f - w then 8 - (f - w) else f - w)
abbrev goN (k f fo w : Nat) : Prop := w ≠ 8 ∧ ((k = 1 ∧ 2 ≤ fo) ∨ ((k = 2 ∨ k = 5) ∧ fo = 9) ∨ (k = 4 ∧ 2 ≤ fo ∧ offN f w ≤ 1))
def felN (fo w : Nat) : Nat := if w = 8 then 0 else fo
def milN (f fo w : Nat) : Nat := felN fo w - offN f w
def driN (fo w : Nat) : Nat := if 1 ≤ felN fo w ∧ felN fo w ≤ 5 then 3 else 0
def earN (k f fo day w : Nat) : Nat := if k = 1 then milN f fo w + 1 else if k = 2 then driN fo w else if k = 3 then (if offN f w = 0 then 2 * milN f fo w else milN f fo w) else if k = 4 then (if goN k f fo w then milN f fo w + 1 else 0) else if k = 5 then (if day % 7 = 1 then driN fo w + 5 else driN fo w) else milN f fo w
def dRw (w : Nat) : Nat := [0, 0, 1, 2, 2, 2, 1, 0].getD w 1
def dCw (w : Nat) : Nat := [1, 2, 2, 2, 1, 0, 0, 0].getD w 1
/-- the cell to which a wind blows; 36: over the rim -/
def bto (c w : Nat) : Nat := if (1 ≤ c / 6 + dRw w ∧ c / 6 + dRw w ≤ 6) ∧ (1 ≤ c % 6 + dCw w ∧ c % 6 + dCw w ≤ 6) then 6 * (c / 6 + dRw w - 1) + (c % 6 + dCw w - 1) else 36
def wenN (k f fo c w : Nat) : Nat := if goN k f fo w ∧ bto c w < 36 then bto c w else c
/-- the first wind from w on that isn't sick; 8: none -/
def bw (sick : Nat) : Nat → Nat → Nat
  | 0, _ => 8
  | n + 1, w => if sick.testBit w then bw sick n ((w + 1) % 8) else w
def blow (S : Nat → Nat) (day : Nat) : Nat := if S (4 + day % 7) = 8 then 8 else bw (S 2) 8 (S (4 + day % 7))
def sumN (s e : Nat) : Nat := if 99999 < s + e then 99999 else s + e
def dayW (S : Nat → Nat) (w : Nat) : Nat → Nat := fun x => if x = 0 then S 0 + 1 else if 11 ≤ x ∧ x < 11 + 4 * S 3 then
  (if (x - 11) % 4 = 1 then wenN (S (x - 1)) (S (x + 1)) (S 1) (S x) w else if (x - 11) % 4 = 3 then sumN (S x) (earN (S (x - 3)) (S (x - 1)) (S 1) (S 0) w) else S x) else S x
def day1 (S : Nat → Nat) : Nat → Nat := dayW S (blow S (S 0))
def dayN : Nat → (Nat → Nat) → (Nat → Nat)
  | 0, S => S
  | n + 1, S => day1 (dayN n S)
def sumsP (S : Nat → Nat) : Nat → Nat
  | 0 => 0
  | n + 1 => sumsP S n + S (11 + 4 * n + 3)
def sumsN (S : Nat → Nat) : Nat := sumsP S (S 3)
def wfS (S : Nat → Nat) : Prop := S 0 < 20000 ∧ S 1 ≤ 9 ∧ S 2 < 256 ∧ S 3 ≤ 8 ∧ (∀ d, d < 7 → S (4 + d) ≤ 8) ∧ ∀ t, t < S 3 → S (11 + 4 * t) ≤ 5 ∧ S (11 + 4 * t + 1) < 36 ∧ S (11 + 4 * t + 2) < 8 ∧ S (11 + 4 * t + 3) ≤ 99999
/-! facts of small numbers, by the kernel -/
theorem off_t : ∀ f, f < 8 → ∀ w, w < 9 → offN f w ≤ 4 ∧ (w < 8 → ((nI w - nI f) &&& nI 7) = nI ((w + 8 - f) % 8) ∧ (sFl 2).getD ((w + 8 - f) % 8) 0 = nI (offN f w)) := by decide +kernel
theorem bto_t : ∀ c, c < 36 → ∀ w, w < 8 → bto c w ≤ 36 ∧ (((0 ≤ (nI (c / 6) + (sFl 0).getD w 0).toInt ∧ (nI (c / 6) + (sFl 0).getD w 0).toInt ≤ 5) ∧ (0 ≤ (nI (c % 6) + (sFl 1).getD w 0).toInt ∧ (nI (c % 6) + (sFl 1).getD w 0).toInt ≤ 5)) ↔ bto c w < 36) ∧ (bto c w < 36 → (nI (c / 6) + (sFl 0).getD w 0) * nI 6 + (nI (c % 6) + (sFl 1).getD w 0) = nI (bto c w) ∧ nI 6 * (nI (c / 6) + (sFl 0).getD w 0) + (nI (c % 6) + (sFl 1).getD w 0) = nI (bto c w)) := by decide +kernel
theorem mil_le {f fo w : Nat} (h : fo ≤ 9) : milN f fo w ≤ 9 := by unfold milN felN; split <;> omega
theorem ear_le {k f fo day w : Nat} (h : fo ≤ 9) : earN k f fo day w ≤ 18 := by
  have := mil_le (f := f) (w := w) h
  have h2 : driN fo w ≤ 3 := by unfold driN; split <;> omega
  unfold earN
  (repeat' split) <;> omega
theorem bw_le (s n w : Nat) (h : w < 8) : bw s n w ≤ 8 := by
  induction n generalizing w with
  | zero => exact Nat.le_refl 8
  | succ n ih =>
    unfold bw
    split
    · exact ih _ (Nat.mod_lt _ (by decide))
    · omega
theorem blow_le {S : Nat → Nat} {d : Nat} (h : ∀ d, d < 7 → S (4 + d) ≤ 8) : blow S d ≤ 8 := by
  have := h (d % 7) (Nat.mod_lt _ (by decide))
  unfold blow
  split
  · exact Nat.le_refl 8
  · exact bw_le _ _ _ (by omega)
theorem wen_lt {k f fo c w : Nat} (h : c < 36) : wenN k f fo c w < 36 := by unfold wenN; split <;> omega
theorem sumN_le (s e : Nat) : sumN s e ≤ 99999 := by unfold sumN; split <;> omega
