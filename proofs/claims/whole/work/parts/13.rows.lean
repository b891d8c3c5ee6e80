/-! ROWS OF NUMBERS in memory: the first n places of row (r, i) hold K -/
def putR (M : gM) (r i : Nat) (K : Nat → Nat) (n : Nat) : gM := setI M r i (fun j => if j < n then nI (K j) else M.1 r i j)
theorem setI_r (M : gM) (r i : Nat) (f : Nat → Int32) (r' i' k' : Nat) : (setI M r i f).1 r' i' k' = if r' = r ∧ i' = i then f k' else M.1 r' i' k' := by
  unfold setI
  by_cases z : r' = r ∧ i' = i
  · simp only [if_pos z]
  · simp only [if_neg z]
theorem setL_r (M : gM) (r i : Nat) (f : Nat → Int64) (r' i' k' : Nat) : (setL M r i f).2 r' i' k' = if r' = r ∧ i' = i then f k' else M.2 r' i' k' := by
  unfold setL
  by_cases z : r' = r ∧ i' = i
  · simp only [if_pos z]
  · simp only [if_neg z]
theorem putR_r (M : gM) (r i : Nat) (K : Nat → Nat) (n r' i' k' : Nat) : (putR M r i K n).1 r' i' k' = if r' = r ∧ i' = i ∧ k' < n then nI (K k') else M.1 r' i' k' := by
  unfold putR
  rw [setI_r]
  by_cases z : r' = r ∧ i' = i
  · obtain ⟨rfl, rfl⟩ := z
    rw [if_pos ⟨rfl, rfl⟩]
    by_cases y : k' < n
    · rw [if_pos y, if_pos ⟨rfl, rfl, y⟩]
    · rw [if_neg y, if_neg (fun h => y h.2.2)]
  · rw [if_neg z, if_neg (fun h => z ⟨h.1, h.2.1⟩)]
theorem putR_2 (M : gM) (r i : Nat) (K : Nat → Nat) (n : Nat) : (putR M r i K n).2 = M.2 := rfl
theorem putR_at (M : gM) (r i : Nat) (K : Nat → Nat) {n j : Nat} (h : j < n) : (putR M r i K n).1 r i j = nI (K j) := by rw [putR_r, if_pos ⟨rfl, rfl, h⟩]
theorem putR_far (M : gM) {r i : Nat} (K : Nat → Nat) (n : Nat) {r' i' : Nat} (h : ¬ (r' = r ∧ i' = i)) (k' : Nat) : (putR M r i K n).1 r' i' k' = M.1 r' i' k' := by rw [putR_r, if_neg (fun z => h ⟨z.1, z.2.1⟩)]
theorem putR_seti (M : gM) (r i : Nat) (K : Nat → Nat) {n j v : Nat} (h : j < n) : seti (putR M r i K n) r i j (nI v) = putR M r i (va_up K j v) n := by
  refine gM_ext (fun r' i' k' => ?_) rfl
  rw [seti_r, putR_r, putR_r, vu_r]
  by_cases z : r' = r ∧ i' = i ∧ k' = j
  · obtain ⟨rfl, rfl, rfl⟩ := z
    rw [if_pos ⟨rfl, rfl, rfl⟩, if_pos ⟨rfl, rfl, h⟩, if_pos rfl]
  · rw [if_neg z]
    by_cases y : r' = r ∧ i' = i ∧ k' < n
    · rw [if_pos y, if_pos y, if_neg (fun e => z ⟨y.1, y.2.1, e⟩)]
    · rw [if_neg y, if_neg y]
theorem putR_grow (M : gM) (r i : Nat) (K : Nat → Nat) (n : Nat) : seti (putR M r i K n) r i n (nI (K n)) = putR M r i K (n + 1) := by
  refine gM_ext (fun r' i' k' => ?_) rfl
  rw [seti_r, putR_r, putR_r]
  by_cases z : r' = r ∧ i' = i ∧ k' = n
  · obtain ⟨rfl, rfl, rfl⟩ := z
    rw [if_pos ⟨rfl, rfl, rfl⟩, if_pos ⟨rfl, rfl, Nat.lt_succ_self _⟩]
  · rw [if_neg z]
    by_cases y : r' = r ∧ i' = i ∧ k' < n
    · rw [if_pos y, if_pos ⟨y.1, y.2.1, by omega⟩]
    · rw [if_neg y, if_neg (fun e => by have := e.2.2; by_cases x : k' = n; exact z ⟨e.1, e.2.1, x⟩; exact y ⟨e.1, e.2.1, by omega⟩)]
theorem putR_z (M : gM) (r i : Nat) (K : Nat → Nat) : putR M r i K 0 = M := by
  refine gM_ext (fun r' i' k' => ?_) rfl
  rw [putR_r, if_neg (by omega)]
theorem putR_id {M : gM} {r i : Nat} {K : Nat → Nat} {n : Nat} (h : ∀ j, j < n → M.1 r i j = nI (K j)) : putR M r i K n = M := by
  refine gM_ext (fun r' i' k' => ?_) rfl
  rw [putR_r]
  split
  · rename_i z; obtain ⟨rfl, rfl, z⟩ := z; exact (h _ z).symm
  · rfl
theorem putR_put (M : gM) (r i : Nat) (K K' : Nat → Nat) {n m : Nat} (h : n ≤ m) : putR (putR M r i K n) r i K' m = putR M r i K' m := by
  refine gM_ext (fun r' i' k' => ?_) rfl
  rw [putR_r (putR M r i K n), putR_r M r i K' m]
  by_cases z : r' = r ∧ i' = i ∧ k' < m
  · rw [if_pos z, if_pos z]
  · rw [if_neg z, if_neg z, putR_r, if_neg (fun e => z ⟨e.1, e.2.1, by have := e.2.2; omega⟩)]
theorem putR_cong {M : gM} {r i : Nat} {K K' : Nat → Nat} {n : Nat} (h : ∀ j, j < n → K j = K' j) : putR M r i K n = putR M r i K' n := by
  refine gM_ext (fun r' i' k' => ?_) rfl
  rw [putR_r, putR_r]
  split
  · rename_i z; rw [h _ z.2.2]
  · rfl
theorem putR_copy (M : gM) (r i i2 : Nat) (K : Nat → Nat) (n : Nat) (hK : ∀ j, j < n → M.1 r i j = nI (K j)) : setI M r i2 (va_cpy (M.1 r i) (M.1 r i2) 0 0 n) = putR M r i2 K n := by
  refine gM_ext (fun r' i' k' => ?_) rfl
  rw [setI_r, putR_r]
  by_cases z : r' = r ∧ i' = i2
  · obtain ⟨rfl, rfl⟩ := z
    rw [if_pos ⟨rfl, rfl⟩, va_cpy]
    by_cases y : k' < n
    · rw [if_pos (by omega), if_pos ⟨rfl, rfl, y⟩, show 0 + (k' - 0) = k' by omega]; exact hK k' y
    · rw [if_neg (by omega), if_neg (fun e => y e.2.2)]
  · rw [if_neg z, if_neg (fun e => z ⟨e.1, e.2.1⟩)]
/-! THE FEWEST BRIBES: what stands for never is I -/
def low (N : Nat → Nat) (x v : Nat) : Nat → Nat := if v < N x then va_up N x v else N
def lowW (N K : Nat → Nat) (c kd f fo : Nat) : Nat → (Nat → Nat)
  | 0 => N
  | n + 1 => low (lowW N K c kd f fo n) (wenN kd f fo c n) (K c + 1)
def rowC (I : Nat) (N K : Nat → Nat) (kd f fo own c : Nat) : Nat → Nat := if K c < I then lowW (low N (wenN kd f fo c own) (K c)) K c kd f fo 8 else N
def stepP (I : Nat) (K : Nat → Nat) (kd f fo own : Nat) : Nat → (Nat → Nat)
  | 0 => fun _ => I
  | n + 1 => rowC I (stepP I K kd f fo own n) K kd f fo own n
def begC (I c : Nat) : Nat → Nat := fun x => if x = c then 0 else I
theorem low_le {N : Nat → Nat} {x v B : Nat} (h : ∀ j, N j ≤ B) : ∀ j, low N x v j ≤ B := by
  intro j
  unfold low
  split
  · rw [vu_r]
    have h1 := h x
    split
    · omega
    · exact h j
  · exact h j
theorem lowW_le {N K : Nat → Nat} {c kd f fo B : Nat} (h : ∀ j, N j ≤ B) (n : Nat) : ∀ j, lowW N K c kd f fo n j ≤ B := by
  induction n with
  | zero => exact h
  | succ n ih => exact low_le ih
theorem stepP_le {I : Nat} {K : Nat → Nat} {kd f fo own : Nat} (n : Nat) : ∀ j, stepP I K kd f fo own n j ≤ I := by
  induction n with
  | zero => intro j; exact Nat.le_refl I
  | succ n ih =>
    show ∀ j, rowC I (stepP I K kd f fo own n) K kd f fo own n j ≤ I
    unfold rowC
    split
    · exact lowW_le (low_le ih) 8
    · exact ih
/-- the days of the fewest bribes: the wind of day S 0 + n -/
def waysN (I : Nat) (S : Nat → Nat) (t : Nat) : Nat → (Nat → Nat)
  | 0 => begC I (S (11 + 4 * t + 1))
  | n + 1 => stepP I (waysN I S t n) (S (11 + 4 * t)) (S (11 + 4 * t + 2)) (S 1) (blow S (S 0 + n)) 36
def reaP (I : Nat) (K : Nat → Nat) : Nat → Nat
  | 0 => 0
  | n + 1 => reaP I K n ||| (if K n < I then 2 ^ n else 0)
theorem nx_orL (a b : Nat) : lN a ||| lN b = lN (a ||| b) := by
  apply Int64.toBitVec_inj.mp
  show (BitVec.ofNat 64 a) ||| (BitVec.ofNat 64 b) = BitVec.ofNat 64 (a ||| b)
  rw [BitVec.ofNat_or]
theorem shlL_t : ∀ c, c < 36 → (1 : Int64) <<< ((nI c).toInt64 &&& 63) = lN (2 ^ c) := by decide +kernel
/-- numbers of a sheet, cut to its bits -/
def cutB (b : Nat) (v : Int64) : Int64 := if b = 8 then v.toInt32.toInt8.toInt32.toInt64 else if b = 16 then v.toInt32.toInt16.toInt32.toInt64 else v
def putL (M : gM) (r i : Nat) (f : Nat → Int64) (n : Nat) : gM := setL M r i (fun j => if j < n then f j else M.2 r i j)
theorem putL_r (M : gM) (r i : Nat) (K : Nat → Int64) (n r' i' k' : Nat) : (putL M r i K n).2 r' i' k' = if r' = r ∧ i' = i ∧ k' < n then K k' else M.2 r' i' k' := by
  unfold putL
  rw [setL_r]
  by_cases z : r' = r ∧ i' = i
  · obtain ⟨rfl, rfl⟩ := z
    rw [if_pos ⟨rfl, rfl⟩]
    by_cases y : k' < n
    · rw [if_pos y, if_pos ⟨rfl, rfl, y⟩]
    · rw [if_neg y, if_neg (fun h => y h.2.2)]
  · rw [if_neg z, if_neg (fun h => z ⟨h.1, h.2.1⟩)]
theorem gM_extL {M M' : gM} (h1 : M.1 = M'.1) (h2 : ∀ r i k, M.2 r i k = M'.2 r i k) : M = M' := by
  refine Prod.ext h1 ?_
  funext r i k
  exact h2 r i k
theorem putL_grow (M : gM) (r i : Nat) (K : Nat → Int64) (n : Nat) : setl (putL M r i K n) r i n (K n) = putL M r i K (n + 1) := by
  refine gM_extL rfl (fun r' i' k' => ?_)
  rw [setl_r, putL_r, putL_r]
  by_cases z : r' = r ∧ i' = i ∧ k' = n
  · obtain ⟨rfl, rfl, rfl⟩ := z
    rw [if_pos ⟨rfl, rfl, rfl⟩, if_pos ⟨rfl, rfl, Nat.lt_succ_self _⟩]
  · rw [if_neg z]
    by_cases y : r' = r ∧ i' = i ∧ k' < n
    · rw [if_pos y, if_pos ⟨y.1, y.2.1, by omega⟩]
    · rw [if_neg y, if_neg (fun e => by have := e.2.2; by_cases x : k' = n; exact z ⟨e.1, e.2.1, x⟩; exact y ⟨e.1, e.2.1, by omega⟩)]
theorem putL_z (M : gM) (r i : Nat) (K : Nat → Int64) : putL M r i K 0 = M := by
  refine gM_extL rfl (fun r' i' k' => ?_)
  rw [putL_r, if_neg (by omega)]
theorem putL_1 (M : gM) (r i : Nat) (K : Nat → Int64) (n : Nat) : (putL M r i K n).1 = M.1 := rfl
theorem fnd_t : ∀ n, n < 7 → (-1000000001 : Int32) - (-1000000001 - nI n) = nI n := by decide +kernel
