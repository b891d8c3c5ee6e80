/-! THE ABSTRACT STATE of both: sea, kept sea, is one kept, tape, its length, sheets' bits, sizes, numbers, findings told; and what each call answers and makes of it -/
abbrev gA : Type := (Nat → Nat) × (Nat → Nat) × Nat × (Nat → Nat) × Nat × (Nat → Nat) × (Nat → Nat) × (Nat → Nat → Int64) × (Nat → Int32)
def aS (A : gA) : Nat → Nat := A.1
def aK (A : gA) : Nat → Nat := A.2.1
def ak (A : gA) : Nat := A.2.2.1
def aT (A : gA) : Nat → Nat := A.2.2.2.1
def al (A : gA) : Nat := A.2.2.2.2.1
def ab (A : gA) : Nat → Nat := A.2.2.2.2.2.1
def az (A : gA) : Nat → Nat := A.2.2.2.2.2.2.1
def an (A : gA) : Nat → Nat → Int64 := A.2.2.2.2.2.2.2.1
def aF (A : gA) : Nat → Int32 := A.2.2.2.2.2.2.2.2
def sS (A : gA) (S : Nat → Nat) : gA := (S, aK A, ak A, aT A, al A, ab A, az A, an A, aF A)
def sK (A : gA) (S : Nat → Nat) (k : Nat) : gA := (aS A, S, k, aT A, al A, ab A, az A, an A, aF A)
def sT (A : gA) (T : Nat → Nat) (l : Nat) : gA := (aS A, aK A, ak A, T, l, ab A, az A, an A, aF A)
def sB (A : gA) (b z : Nat → Nat) (n : Nat → Nat → Int64) : gA := (aS A, aK A, ak A, aT A, al A, b, z, n, aF A)
def sF (A : gA) (f : Nat → Int32) : gA := (aS A, aK A, ak A, aT A, al A, ab A, az A, an A, f)
def uN (x : Int32) : Nat := x.toInt.toNat
theorem uN_nI {n : Nat} (h : n < 2 ^ 31) : uN (nI n) = n := by unfold uN; rw [nI_toInt h]; rfl
def wfA (A : gA) : Prop := wfS (aS A) ∧ aS A 0 ≤ 9999 ∧ (ak A = 1 → wfS (aK A) ∧ aK A 0 ≤ 9999) ∧ ak A < 2 ∧ al A ≤ 120 ∧ (∀ j, aT A j < 256) ∧ ∀ s, s < 4 → (ab A s = 0 ∨ ab A s = 8 ∨ ab A s = 16 ∨ ab A s = 64) ∧ az A s ≤ 40
def keepM (M M' : gM) : Prop := ∀ r, 15 ≤ r → M'.1 r = M.1 r ∧ M'.2 r = M.2 r
def keepC (M M' : gM) : Prop := ∀ r, r < 15 → M'.1 r = M.1 r ∧ M'.2 r = M.2 r
def clsP (M : gM) (A : gA) : Prop := seaP M 0 (aS A) ∧ (ak A = 1 → seaP M 2 (aK A)) ∧ M.1 0 0 3 = nI (ak A) ∧ M.1 8 0 1 = nI (al A) ∧ (∀ j, j < al A → M.1 9 0 j = nI (aT A j)) ∧ (∀ s, s < 4 → M.1 12 s 0 = nI (ab A s) ∧ M.1 12 s 1 = nI (az A s) ∧ ∀ j, j < 40 → M.2 13 s j = an A s j) ∧ ∀ n, n < 7 → M.1 14 0 n = aF A n
def rowP (M : gM) (j : Nat) (S : Nat → Nat) : Prop := ∀ k, k < 11 + 4 * S 3 → M.1 16 j k = nI (S k)
def mdlP (M : gM) (A : gA) : Prop := rowP M 0 (aS A) ∧ (ak A = 1 → rowP M 1 (aK A)) ∧ M.1 15 0 3 = nI (ak A) ∧ M.1 15 0 8 = nI (al A) ∧ (∀ j, j < al A → M.1 19 0 j = nI (aT A j)) ∧ (∀ s, s < 4 → M.1 20 0 s = nI (ab A s) ∧ M.1 20 1 s = nI (az A s) ∧ ∀ j, j < 40 → M.2 21 0 (40 * s + j) = an A s j) ∧ ∀ n, n < 7 → M.1 17 0 n = aF A n
abbrev Rs : Type := Int32 × gA
def fnd (A : gA) (n : Nat) : Rs := (-1000000001 - nI n, sF A (fun j => if j = n then aF A n + nI 1 else aF A j))
abbrev okI (x : Int32) (a b : Int) : Prop := a ≤ x.toInt ∧ x.toInt ≤ b
abbrev okT (A : gA) (x : Int32) : Prop := 0 ≤ x.toInt ∧ x.toInt < aS A 3
def oRota (A : gA) (x y : Int32) : Rs := if okI x 0 6 ∧ okI y 0 8 then (nI (aS A (4 + uN x)), sS A (va_up (aS A) (4 + uN x) (uN y))) else fnd A 0
def oRotaOf (A : gA) (x : Int32) : Rs := if okI x 0 6 then (nI (aS A (4 + uN x)), A) else fnd A 0
def oSick (A : gA) (x y : Int32) : Rs := if okI x 0 7 ∧ okI y 0 1 then (nI (if (aS A 2).testBit (uN x) then 1 else 0), sS A (va_up (aS A) 2 (mkS (aS A 2) (uN x) (uN y)))) else fnd A 0
def oForce (A : gA) (x : Int32) : Rs := if okI x 0 9 then (nI (aS A 1), sS A (va_up (aS A) 1 (uN x))) else fnd A 0
def oBlows (A : gA) (x : Int32) : Rs := if okI x 0 9999 then (nI (blow (aS A) (uN x)), A) else fnd A 0
def oLee (A : gA) (x y : Int32) : Rs := if okI x 0 35 ∧ okI y 0 7 then (if bto (uN x) (uN y) < 36 then (nI (bto (uN x) (uN y)), A) else fnd A 3) else fnd A 0
def oThing (A : gA) (x y : Int32) : Rs := if okI x 0 5 ∧ okI y 0 35 then (if aS A 3 = 8 then fnd A 1 else (nI (aS A 3), sS A (addS (aS A) (uN x) (uN y) 0))) else fnd A 0
def thg (S : Nat → Nat) (t w : Nat) : Nat := S (11 + 4 * t + w)
def oOf (A : gA) (x y : Int32) : Rs := if okT A x ∧ okI y 0 5 then (nI (if uN y < 4 then thg (aS A) (uN x) (uN y) else if uN y = 4 then earN (thg (aS A) (uN x) 0) (thg (aS A) (uN x) 2) (aS A 1) (aS A 0) (blow (aS A) (aS A 0)) else if goN (thg (aS A) (uN x) 0) (thg (aS A) (uN x) 2) (aS A 1) (blow (aS A) (aS A 0)) then 1 else 0), A) else fnd A 0
def mostN (w : Nat) : Nat := if w = 1 then 35 else if w = 2 then 7 else 99999
def oSet (A : gA) (x y z : Int32) : Rs := if okT A x ∧ okI y 1 3 ∧ okI z 0 (mostN (uN y)) then (nI (thg (aS A) (uN x) (uN y)), sS A (va_up (aS A) (11 + 4 * uN x + uN y) (uN z))) else fnd A 0
def oTurn (A : gA) (x y : Int32) : Rs := if okT A x ∧ okI y 0 5 then (nI (thg (aS A) (uN x) 0), sS A (va_up (aS A) (11 + 4 * uN x) (uN y))) else fnd A 0
def oAs (A : gA) (x y : Int32) : Rs := if okT A x ∧ okI y 0 5 then (if uN y = 0 ∨ uN y = thg (aS A) (uN x) 0 ∨ (uN y = 1 ∧ thg (aS A) (uN x) 0 = 4) ∨ (uN y = 2 ∧ thg (aS A) (uN x) 0 = 5) then (nI (thg (aS A) (uN x) 3), A) else fnd A 2) else fnd A 0
def oDays (A : gA) (x : Int32) : Rs := if okI x 1 60 then (if 9999 < aS A 0 + uN x then fnd A 4 else (nI (sumsN (dayN (uN x) (aS A))), sS A (dayN (uN x) (aS A)))) else fnd A 0
def oBribe (A : gA) (x : Int32) : Rs := if okI x 0 7 then (if aS A 0 = 9999 then fnd A 4 else (nI (sumsN (dayW (aS A) (uN x))), sS A (dayW (aS A) (uN x)))) else fnd A 0
def oNow (A : gA) (x : Int32) : Rs := if okI x 0 6 then (nI (if uN x = 0 then aS A 0 else if uN x = 1 then blow (aS A) (aS A 0) else if uN x = 2 then aS A 1 else if uN x = 3 then aS A 2 else if uN x = 4 then sumsN (aS A) else if uN x = 5 then earP (aS A) (blow (aS A) (aS A 0)) (aS A 3) else goP (aS A) (blow (aS A) (aS A 0)) (aS A 3)), A) else fnd A 0
def oOn (A : gA) (x y z : Int32) : Rs := if okT A x ∧ okI y 0 60 ∧ okI z 0 1 then (nI (thg (dayN (uN y) (aS A)) (uN x) (if uN z = 0 then 1 else 3)), A) else fnd A 0
def firstN (p : Nat → Bool) : Nat → Nat → Nat
  | 0, d => d
  | k + 1, d => if p d then d else firstN p k (d + 1)
def oComes (A : gA) (x y : Int32) : Rs := if okT A x ∧ okI y 0 35 then (if firstN (fun d => thg (dayN d (aS A)) (uN x) 1 == uN y) 61 0 = 61 then fnd A 3 else (nI (firstN (fun d => thg (dayN d (aS A)) (uN x) 1 == uN y) 61 0), A)) else fnd A 0
def oMeet (A : gA) (x y : Int32) : Rs := if okT A x ∧ okT A y ∧ ¬ x = y then (if firstN (fun d => thg (dayN d (aS A)) (uN x) 1 == thg (dayN d (aS A)) (uN y) 1) 61 0 = 61 then fnd A 3 else (nI (firstN (fun d => thg (dayN d (aS A)) (uN x) 1 == thg (dayN d (aS A)) (uN y) 1) 61 0), A)) else fnd A 0
def leaW (I : Nat) (S : Nat → Nat) (t c : Nat) : Nat → Nat
  | 0 => waysN I S t 0 c
  | n + 1 => if waysN I S t (n + 1) c < leaW I S t c n then waysN I S t (n + 1) c else leaW I S t c n
def oBribes (A : gA) (x y z : Int32) : Rs := if okT A x ∧ okI y 0 35 ∧ okI z 0 30 then (if leaW 99 (aS A) (uN x) (uN y) (uN z) = 99 then fnd A 3 else (nI (leaW 99 (aS A) (uN x) (uN y) (uN z)), A)) else fnd A 0
def oSoonest (A : gA) (x y z : Int32) : Rs := if okT A x ∧ okI y 0 35 ∧ okI z 0 30 then (if firstN (fun d => decide (waysN 99 (aS A) (uN x) d (uN y) ≤ uN z)) 31 0 = 31 then fnd A 3 else (nI (firstN (fun d => decide (waysN 99 (aS A) (uN x) d (uN y) ≤ uN z)) 31 0), A)) else fnd A 0
def oReach (A : gA) (x y : Int32) : Int64 × gA := if okT A x ∧ okI y 0 30 then (lN (reaP 99 (waysN 99 (aS A) (uN x) (uN y)) 36), A) else ((fnd A 0).1.toInt64, (fnd A 0).2)
def gainN (n : Nat) (S : Nat → Nat) : Nat := sumsN (dayN n S) - sumsN S
def swpS (S : Nat → Nat) (a b : Nat) : Nat → Nat := fun x => if x = 4 + b then S (4 + a) else if x = 4 + a then S (4 + b) else S x
def upB (st : Int32 × Nat) (v g : Nat) : Int32 × Nat := if st.2 < g then (nI v, g) else st
def swpB (S : Nat → Nat) (n a : Nat) (st : Int32 × Nat) : Nat → Int32 × Nat
  | 0 => st
  | k + 1 => upB (swpB S n a st k) (10 * a + (a + 1 + k)) (gainN n (swpS S a (a + 1 + k)))
def swpA (S : Nat → Nat) (n : Nat) : Nat → Int32 × Nat
  | 0 => (-1, gainN n S)
  | a + 1 => swpB S n a (swpA S n a) (6 - a)
def oSwap (A : gA) (x : Int32) : Rs := if okI x 1 30 then (if (swpA (aS A) (uN x) 7).1 = -1 then fnd A 3 else ((swpA (aS A) (uN x) 7).1, A)) else fnd A 0
def misB (S : Nat → Nat) (n : Nat) : Nat → Int32 × Nat
  | 0 => (-1, 0)
  | w + 1 => if (S 2).testBit w then misB S n w else if (misB S n w).1 = -1 ∨ gainN n (va_up S 2 (mkS (S 2) w 1)) < (misB S n w).2 then (nI w, gainN n (va_up S 2 (mkS (S 2) w 1))) else misB S n w
def oMissed (A : gA) (x : Int32) : Rs := if okI x 1 30 then (if (misB (aS A) (uN x) 8).1 = -1 then fnd A 3 else ((misB (aS A) (uN x) 8).1, A)) else fnd A 0
def oEnough (A : gA) (x y : Int32) : Rs := if okI x 1 30 ∧ okI y 0 99999 then (if firstN (fun f => decide (uN y ≤ gainN (uN x) (va_up (aS A) 1 f))) 10 0 = 10 then fnd A 3 else (nI (firstN (fun f => decide (uN y ≤ gainN (uN x) (va_up (aS A) 1 f))) 10 0), A)) else fnd A 0
/-- the first of the best -/
def bstN (f : Nat → Nat) : Nat → Nat × Nat
  | 0 => (0, f 0)
  | n + 1 => if (bstN f n).2 < f (n + 1) then (n + 1, f (n + 1)) else bstN f n
def bstAt (S : Nat → Nat) (at' m n : Nat) : Nat := (bstN (fun v => gainN n (va_up S at' v)) m).1
def oKind (A : gA) (x y : Int32) : Rs := if okT A x ∧ okI y 1 30 then (nI (bstAt (aS A) (11 + 4 * uN x) 5 (uN y)), A) else fnd A 0
def oFacing (A : gA) (x y : Int32) : Rs := if okT A x ∧ okI y 1 30 then (nI (bstAt (aS A) (11 + 4 * uN x + 2) 7 (uN y)), A) else fnd A 0
def oBest (A : gA) (x y : Int32) : Rs := if okI x 0 6 ∧ okI y 1 30 then (nI (bstAt (aS A) (4 + uN x) 8 (uN y)), A) else fnd A 0
def oFeed (A : gA) (x y : Int32) : Rs := if okI y 1 4 then (if 120 < al A + uN y then fnd A 1 else (nI (al A + uN y), sT A (fun j => if al A ≤ j ∧ j < al A + uN y then x.toBitVec.toNat / 2 ^ (8 * (uN y - 1 - (j - al A))) % 256 else aT A j) (al A + uN y))) else fnd A 0
def oWipe (A : gA) : Rs := (nI (al A), sT A (aT A) 0)
def oSheet (A : gA) (x y z : Int32) : Rs := if okI x 0 3 ∧ (y = nI 0 ∨ y = nI 8 ∨ y = nI 16 ∨ y = nI 64) then (if z.toInt < 0 then fnd A 6 else if 40 < z.toInt then fnd A 0 else (nI (if uN y = 0 then 0 else uN z), sB A (va_up (ab A) (uN x) (uN y)) (va_up (az A) (uN x) (if uN y = 0 then 0 else uN z)) (va_up (an A) (uN x) (fun _ => 0)))) else fnd A 0
def fndL (A : gA) (n : Nat) : Int64 × gA := ((fnd A n).1.toInt64, (fnd A n).2)
def oWrite (A : gA) (x y : Int32) (v : Int64) : Int64 × gA := if okI x 0 3 then (if ab A (uN x) = 0 then fndL A 5 else if 0 ≤ y.toInt ∧ y.toInt < az A (uN x) then (an A (uN x) (uN y), sB A (ab A) (az A) (va_up (an A) (uN x) (va_up (an A (uN x)) (uN y) (cutB (ab A (uN x)) v)))) else fndL A 0) else fndL A 0
def oCopy (A : gA) (s f t o n : Int32) : Rs := if okI s 0 3 ∧ okI t 0 3 then (if ab A (uN s) = 0 ∨ ab A (uN t) = 0 then fnd A 5 else if ¬ ab A (uN s) = ab A (uN t) then fnd A 2 else if (0 ≤ f.toInt ∧ 0 ≤ n.toInt ∧ f.toInt + n.toInt ≤ az A (uN s)) ∧ (0 ≤ o.toInt ∧ 0 ≤ n.toInt ∧ o.toInt + n.toInt ≤ az A (uN t)) then (n, sB A (ab A) (az A) (va_up (an A) (uN t) (va_cpy (an A (uN s)) (an A (uN t)) (uN f) (uN o) (uN n)))) else fnd A 0) else fnd A 0
def layS (S : Nat → Nat) (f : Nat → Int64) : Nat → Nat × (Nat → Nat)
  | 0 => (0, S)
  | d + 1 => if 0 ≤ (f d).toInt ∧ (f d).toInt ≤ 8 then ((layS S f d).1 + 1, va_up (layS S f d).2 (4 + d) (f d).toInt.toNat) else layS S f d
def oLays (A : gA) (x : Int32) : Rs := if okI x 0 3 then (if ab A (uN x) = 0 then fnd A 5 else (nI (layS (aS A) (an A (uN x)) (if az A (uN x) < 7 then az A (uN x) else 7)).1, sS A (layS (aS A) (an A (uN x)) (if az A (uN x) < 7 then az A (uN x) else 7)).2)) else fnd A 0
def oBook (A : gA) (x y : Int32) : Rs := if okI x 0 3 then (if ab A (uN x) = 0 then fnd A 5 else if okT A y then (nI (az A (uN x)), sB A (ab A) (az A) (va_up (an A) (uN x) (fun j => if j < az A (uN x) then cutB (ab A (uN x)) (lN (thg (dayN j (aS A)) (uN y) 3)) else an A (uN x) j))) else fnd A 0) else fnd A 0
def isBk (S : Nat → Nat) (t : Nat) (f : Nat → Int64) : Nat → Bool
  | 0 => true
  | d + 1 => isBk S t f d && decide (f d = lN (thg (dayN d S) t 3))
def kfS (S : Nat → Nat) (t k : Nat) : Nat → Nat := va_up (va_up S (11 + 4 * t) (k / 8)) (11 + 4 * t + 2) (k % 8)
def rdN (S : Nat → Nat) (t : Nat) (f : Nat → Int64) (z : Nat) : Nat → Nat
  | 0 => 0
  | k + 1 => rdN S t f z k + (if isBk (kfS S t k) t f z then 1 else 0)
def oRead (A : gA) (x y : Int32) : Rs := if okI x 0 3 then (if ab A (uN x) = 0 then fnd A 5 else if okT A y then (nI (rdN (aS A) (uN y) (an A (uN x)) (az A (uN x)) 48), A) else fnd A 0) else fnd A 0
def oImage (A : gA) : Rs := (nI 1, sK A (aS A) 1)
def oUndo (A : gA) : Rs := if ak A = 1 then (nI (aK A 3), sS A (aK A)) else fnd A 3
def oTear (A : gA) : Rs := (nI (ak A), sK A (aK A) 0)
def cntB (s : Nat) : Nat → Nat
  | 0 => 0
  | w + 1 => cntB s w + (if s.testBit w then 1 else 0)
def oCount (A : gA) (x : Int32) : Rs := if okI x 0 3 then (nI (if uN x = 0 then aS A 3 else if uN x = 1 then al A else if uN x = 2 then cntB (aS A 2) 8 else calP (aS A) 7), A) else fnd A 0
def fsum (f : Nat → Int32) : Nat → Int32
  | 0 => nI 0
  | n + 1 => fsum f n + f n
def oStatus (A : gA) (x : Int32) : Rs := if okI x (-1) 6 then (if x.toInt < 0 then fsum (aF A) 7 else aF A (uN x), A) else fnd A 0
/-! findings and frames -/
theorem keepM.rf (M : gM) : keepM M M := fun _ _ => ⟨rfl, rfl⟩
theorem keepM.tr {M N L : gM} (h : keepM M N) (g : keepM N L) : keepM M L := fun r hr => ⟨(g r hr).1.trans (h r hr).1, (g r hr).2.trans (h r hr).2⟩
theorem keepC.rf (M : gM) : keepC M M := fun _ _ => ⟨rfl, rfl⟩
theorem keepC.tr {M N L : gM} (h : keepC M N) (g : keepC N L) : keepC M L := fun r hr => ⟨(g r hr).1.trans (h r hr).1, (g r hr).2.trans (h r hr).2⟩
theorem seti_row (M : gM) {r i k : Nat} {x : Int32} {r' : Nat} (h : ¬ r' = r) : (seti M r i k x).1 r' = M.1 r' := by
  funext i' k'
  rw [seti_r, if_neg (fun z => h z.1)]
theorem setl_row (M : gM) {r i k : Nat} {x : Int64} {r' : Nat} (h : ¬ r' = r) : (setl M r i k x).2 r' = M.2 r' := by
  funext i' k'
  rw [setl_r, if_neg (fun z => h z.1)]
theorem keepM_seti (M : gM) {r : Nat} (i k : Nat) (x : Int32) (h : r < 15) : keepM M (seti M r i k x) := fun r' hr => ⟨seti_row M (by omega), rfl⟩
theorem keepC_seti (M : gM) {r : Nat} (i k : Nat) (x : Int32) (h : 15 ≤ r) : keepC M (seti M r i k x) := fun r' hr => ⟨seti_row M (by omega), rfl⟩
theorem keepM_setl (M : gM) {r : Nat} (i k : Nat) (x : Int64) (h : r < 15) : keepM M (setl M r i k x) := fun r' hr => ⟨rfl, setl_row M (by omega)⟩
theorem keepC_setl (M : gM) {r : Nat} (i k : Nat) (x : Int64) (h : 15 ≤ r) : keepC M (setl M r i k x) := fun r' hr => ⟨rfl, setl_row M (by omega)⟩
theorem keepM_put (M : gM) (q : Nat) (S : Nat → Nat) (n : Nat) : keepM M (putSn M q S n) := fun r hr => ⟨by funext i k; exact putSn_far M q S (by omega) (by omega) (by omega) k, rfl⟩
theorem keepM_putR (M : gM) {r : Nat} (i : Nat) (K : Nat → Nat) (n : Nat) (h : r < 15) : keepM M (putR M r i K n) := fun r' hr => ⟨by funext i' k; exact putR_far M K n (by omega) k, rfl⟩
theorem keepC_putR (M : gM) {r : Nat} (i : Nat) (K : Nat → Nat) (n : Nat) (h : 15 ≤ r) : keepC M (putR M r i K n) := fun r' hr => ⟨by funext i' k; exact putR_far M K n (by omega) k, rfl⟩
theorem clsP_keepC {M M' : gM} {A : gA} (h : keepC M M') (c : clsP M A) : clsP M' A := by
  unfold clsP seaP at *
  rw [(h 1 (by omega)).1, (h 2 (by omega)).1, (h 4 (by omega)).1, (h 0 (by omega)).1, (h 8 (by omega)).1, (h 9 (by omega)).1, (h 12 (by omega)).1, (h 13 (by omega)).2, (h 14 (by omega)).1]
  exact c
theorem mdlP_keepM {M M' : gM} {A : gA} (h : keepM M M') (c : mdlP M A) : mdlP M' A := by
  unfold mdlP rowP at *
  rw [(h 15 (by omega)).1, (h 16 (by omega)).1, (h 17 (by omega)).1, (h 19 (by omega)).1, (h 20 (by omega)).1, (h 21 (by omega)).2]
  exact c
def Qc (M : gM) (R : Rs) (v : Option Value) (M' : gM) : Prop := v = some (.int R.1) ∧ clsP M' R.2 ∧ keepM M M'
def Qm (M : gM) (R : Rs) (v : Option Value) (M' : gM) : Prop := v = some (.int R.1) ∧ mdlP M' R.2 ∧ keepC M M'
theorem clsP_fnd {M : gM} {A : gA} {n : Nat} (h : clsP M A) (hn : n < 7) : clsP (seti M 14 0 n (M.1 14 0 n + nI 1)) (fnd A n).2 := by
  obtain ⟨h1, h2, h3, h4, h5, h6, h7⟩ := h
  have e : ∀ r i k, ¬ r = 14 → (seti M 14 0 n (M.1 14 0 n + nI 1)).1 r i k = M.1 r i k := fun r i k z => by rw [seti_r, if_neg (fun y => z y.1)]
  refine ⟨?_, ?_, ?_, ?_, ?_, ?_, ?_⟩
  · unfold seaP at *; rw [seti_row M (show ¬ 1 = 14 by omega), seti_row M (show ¬ 2 = 14 by omega), seti_row M (show ¬ 4 = 14 by omega)]; exact h1
  · unfold seaP at *; rw [seti_row M (show ¬ 1 = 14 by omega), seti_row M (show ¬ 2 = 14 by omega), seti_row M (show ¬ 4 = 14 by omega)]; exact h2
  · rw [e _ _ _ (by omega)]; exact h3
  · rw [e _ _ _ (by omega)]; exact h4
  · intro j hj; rw [e _ _ _ (by omega)]; exact h5 j hj
  · intro s hs; rw [e _ _ _ (by omega), e _ _ _ (by omega)]; exact h6 s hs
  · intro j hj
    rw [seti_r, h7 n hn]
    show _ = if j = n then aF A n + nI 1 else aF A j
    by_cases z : j = n
    · rw [if_pos ⟨rfl, rfl, z⟩, if_pos z]
    · rw [if_neg (fun y => z y.2.2), if_neg z]; exact h7 j hj
theorem Qc_fnd {M : gM} {A : gA} {n : Nat} {R : Rs} (h : clsP M A) (hn : n < 7) (hR : R = fnd A n) : Qc M R (some (.int (-1000000001 - nI n))) (seti M 14 0 n (M.1 14 0 n + nI 1)) := by
  subst hR
  exact ⟨rfl, clsP_fnd h hn, keepM_seti M 0 n _ (by omega)⟩
theorem mdlP_fnd {M : gM} {A : gA} {n : Nat} (h : mdlP M A) (hn : n < 7) : mdlP (seti M 17 0 n (M.1 17 0 n + nI 1)) (fnd A n).2 := by
  obtain ⟨h1, h2, h3, h4, h5, h6, h7⟩ := h
  have e : ∀ r i k, ¬ r = 17 → (seti M 17 0 n (M.1 17 0 n + nI 1)).1 r i k = M.1 r i k := fun r i k z => by rw [seti_r, if_neg (fun y => z y.1)]
  refine ⟨?_, ?_, ?_, ?_, ?_, ?_, ?_⟩
  · intro k hk; rw [e _ _ _ (by omega)]; exact h1 k hk
  · intro z k hk; rw [e _ _ _ (by omega)]; exact h2 z k hk
  · rw [e _ _ _ (by omega)]; exact h3
  · rw [e _ _ _ (by omega)]; exact h4
  · intro j hj; rw [e _ _ _ (by omega)]; exact h5 j hj
  · intro s hs; rw [e _ _ _ (by omega), e _ _ _ (by omega)]; exact h6 s hs
  · intro j hj
    rw [seti_r, h7 n hn]
    show _ = if j = n then aF A n + nI 1 else aF A j
    by_cases z : j = n
    · rw [if_pos ⟨rfl, rfl, z⟩, if_pos z]
    · rw [if_neg (fun y => z y.2.2), if_neg z]; exact h7 j hj
theorem Qm_fnd {M : gM} {A : gA} {n : Nat} {R : Rs} (h : mdlP M A) (hn : n < 7) (hR : R = fnd A n) : Qm M R (some (.int (-1000000001 - nI n))) (seti M 17 0 n (M.1 17 0 n + nI 1)) := by
  subst hR
  exact ⟨rfl, mdlP_fnd h hn, keepC_seti M 0 n _ (by omega)⟩
/-- the sea alone became another -/
theorem clsP_sea {M : gM} {A : gA} {S : Nat → Nat} (h : clsP M A) (hS : S 3 ≤ 8) (hK : ak A = 1 → aK A 3 ≤ 8) : clsP (putSea M 0 S) (sS A S) := by
  obtain ⟨h1, h2, h3, h4, h5, h6, h7⟩ := h
  have e : ∀ r i k, ¬ r = 1 → ¬ r = 2 → ¬ r = 4 → (putSea M 0 S).1 r i k = M.1 r i k := fun r i k a b c => putSn_far M 0 S (by omega) (by omega) (by omega) k
  refine ⟨putSea_P M 0 S, ?_, ?_, ?_, ?_, ?_, ?_⟩
  · intro z; exact (seaP_far (by omega) hS (hK z)).mpr (h2 z)
  · rw [e _ _ _ (by omega) (by omega) (by omega)]; exact h3
  · rw [e _ _ _ (by omega) (by omega) (by omega)]; exact h4
  · intro j hj; rw [e _ _ _ (by omega) (by omega) (by omega)]; exact h5 j hj
  · intro s hs; rw [e _ _ _ (by omega) (by omega) (by omega), e _ _ _ (by omega) (by omega) (by omega)]; exact h6 s hs
  · intro n hn; rw [e _ _ _ (by omega) (by omega) (by omega)]; exact h7 n hn
