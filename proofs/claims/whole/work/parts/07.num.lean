/-! helpers over numbers; the static functions of both -/
/-- the same for a method of the JDK -/
theorem Ct.ofJ {G : gG} {Y : gY} {dd : Nat} {vs : List Value} {M : gM} {Q : Option Value → gM → Prop} (hy : plainFor Y.1 = true) {k : Nat} {ls0 : List (Option Value)} (h0 : entL vs ++ List.replicate k none = ls0) (hn : ls0.length = Y.2.2.1) (hrt : ∀ ty, Y.2.2.2 = some ty → True)
    (body : ∀ P : gP, Bd G Y.2.1 Y.1.cls Y.2.2.1 dd Y.2.2.2 Q P → P 0 ls0 [] M) : Ct G Y dd vs M Q := by
  intro l
  refine va_MetF (cc := Y.2.1) (maxL := Y.2.2.1) (ret := Y.2.2.2) hy rfl ?_
  intro p e s m args below meth c s₁ B hml hv
  obtain ⟨rfl, hgS, hgH⟩ := hv
  have hts := atoms_spec (ws := wsY Y) B.pre
  have hown : s.vm.findClass Y.1.cls = some m.cls := findClass_of_methodNamed B.named
  have hlocks := B.notSynchronized
  have hx := B.exec
  have hb := B.bytes
  have hr := B.returns
  rw [lg_entry_eq]
  have key := body (fun pc ls st M => ∀ (H : Heap) (locs : List Loc) (lsA : Array Slot), hasL lsA Y.2.2.1 ls → gH G M H → va_S (fr G) s.heap H locs → W p l e (headSpec (wsY Y) (rmD dd)).room s m vs.toArray below meth c H locs 0 0 (MQ below (fun _ st oc t => ∃ (v : Option Value) (M' : gM), oc = .returned v ∧ Q v M' ∧ gH G M' t.heap ∧ va_F (fr G) st t) vs.toArray s 0 0 (fr G)) (F0 m pc lsA st))
    ⟨p, l, e, (headSpec (wsY Y) (rmD dd)).room, s, m, vs.toArray, below, meth, c, 0, 0, _, hx, hb, hml, hown, fun w hw => hts w (List.mem_cons_of_mem _ hw), ⟨Nat.le_refl dd, Nat.le_refl (30 * dd), Nat.le_refl 0, Nat.le_refl 0⟩, hgS, fun pc ls st M => Iff.rfl, ?_, ?_, ?_⟩
  · exact key s.heap [] _ (hasL_entry vs h0 hn) hgH va_S.rf
  · intro pc ls x M' ty hty hd hnar hQ H locs lsA h1 h2 h3
    exact W.zret (ty := ty) hx hb (by rw [hr]; exact hty) hnar (fun t ht hW => ⟨_, M', rfl, hQ, by rw [ht]; exact h2, h3.F ht⟩) h3.2.2 hd
  · intro pc ls x M' hty hd hQ H locs lsA h1 h2 h3
    exact W.lret hx hb (by rw [hr]; exact hty) (fun t ht hW => ⟨_, M', rfl, hQ, by rw [ht]; exact h2, h3.F ht⟩) h3.2.2 hd
  · intro pc ls M' hty hd hQ H locs lsA h1 h2 h3
    exact W.vret hx hb (by rw [hr]; exact hty) (fun t ht hW => ⟨_, M', rfl, hQ, by rw [ht]; exact h2, h3.F ht⟩) h3.2.2 hd
def bI (p : Prop) [Decidable p] : Int32 := if p then nI 1 else nI 0
theorem bI_t {p : Prop} [Decidable p] (h : p) : bI p = nI 1 := if_pos h
theorem bI_f {p : Prop} [Decidable p] (h : ¬ p) : bI p = nI 0 := if_neg h
theorem bI_0 {p : Prop} [Decidable p] : bI p = nI 0 ↔ ¬ p := by
  unfold bI
  split
  · exact ⟨fun h => absurd h (by decide), fun h => absurd ‹p› h⟩
  · exact ⟨fun _ => ‹_›, fun _ => rfl⟩
theorem bI_n {p : Prop} [Decidable p] : narrow .boolean (.int (bI p)) = .int (bI p) := by unfold bI; split <;> rfl
theorem bI_c {p q : Prop} [Decidable p] [Decidable q] (h : p ↔ q) : bI p = bI q := by unfold bI; simp [h]
theorem cv_lt {x y : Int32} : x < y ↔ x.toInt < y.toInt := Int32.lt_iff_toInt_lt
theorem cv_le {x y : Int32} : x ≤ y ↔ x.toInt ≤ y.toInt := Int32.le_iff_toInt_le
theorem cv_eq {x y : Int32} : x = y ↔ x.toInt = y.toInt := Int32.toInt_inj.symm
theorem cv_0 : (nI 0).toInt = 0 := by decide
theorem of_in {x : Int32} {N : Nat} (h : 0 ≤ x.toInt ∧ x.toInt ≤ N) : ∃ n : Nat, n ≤ N ∧ x = nI n := by
  have h2 : N < 2 ^ 31 ∨ 2 ^ 31 ≤ N := by omega
  have h3 := Int32.toInt_lt x
  refine ⟨x.toInt.toNat, by omega, ?_⟩
  rw [cv_eq, nI_toInt (by omega)]
  omega
theorem i64_toInt (x : Int32) : x.toInt64.toInt = x.toInt := Int32.toInt_toInt64 x
theorem lc_c (x y : Int64) : (lg_cmp x y).toInt = if y.toInt < x.toInt then 1 else if x.toInt = y.toInt then 0 else -1 := by
  unfold lg_cmp
  simp only [gt_iff_lt, Int64.lt_iff_toInt_lt, ← Int64.toInt_inj]
  split
  · rfl
  · split <;> rfl
theorem lc_lt {x y : Int64} : lg_cmp x y < nI 0 ↔ x.toInt < y.toInt := by
  rw [cv_lt, lc_c, cv_0]; split <;> (try split) <;> omega
theorem lc_gt {x y : Int64} : nI 0 < lg_cmp x y ↔ y.toInt < x.toInt := by
  rw [cv_lt, lc_c, cv_0]; split <;> (try split) <;> omega
theorem lc_ge {x y : Int64} : nI 0 ≤ lg_cmp x y ↔ y.toInt ≤ x.toInt := by
  rw [cv_le, lc_c, cv_0]; split <;> (try split) <;> omega
theorem lc_le {x y : Int64} : lg_cmp x y ≤ nI 0 ↔ x.toInt ≤ y.toInt := by
  rw [cv_le, lc_c, cv_0]; split <;> (try split) <;> omega
theorem lc_eq {x y : Int64} : lg_cmp x y = nI 0 ↔ x.toInt = y.toInt := by
  rw [cv_eq, lc_c, cv_0]; split <;> (try split) <;> omega
theorem gcnt_4 : gcnt 4 = 26 := rfl
theorem gcnt_1 : gcnt 1 = 3 := rfl
theorem gcnt_2 : gcnt 2 = 3 := rfl
theorem gcnt_3 : gcnt 3 = 3 := rfl
theorem gcnt_12 : gcnt 12 = 4 := rfl
theorem gcnt_13 : gcnt 13 = 4 := rfl
theorem gcnt_16 : gcnt 16 = 3 := rfl
section Rows
variable {G : gG} {cc : ByteArray} {own : String} {nL d : Nat} {rt : Option FieldType} {Q : Option Value → gM → Prop} {P : gP} {pc : Nat} {ls : List (Option Value)} {st : List Value} {M : gM}
theorem r_ldcN (hR : Bd G cc own nL d rt Q P) {i : Nat} {x : Int32} (hw : Cond.constant own i x ∈ GT) (n : Nat) (h : x = nI n) (hd : decode cc pc = .ok (.ldc i, 2)) (k : P (pc + 2) ls (.int (nI n) :: st) M) : P pc ls st M := r_ldc hR hw hd (by rw [h]; exact k)
theorem r_iaddN (hR : Bd G cc own nL d rt Q P) {a b : Nat} (hd : decode cc pc = .ok (.iadd, 1)) (k : P (pc + 1) ls (.int (nI (a + b)) :: st) M) : P pc ls (.int (nI b) :: .int (nI a) :: st) M := r_iadd hR hd (by rw [nI_add]; exact k)
theorem r_imulN (hR : Bd G cc own nL d rt Q P) {a b : Nat} (hd : decode cc pc = .ok (.imul, 1)) (k : P (pc + 1) ls (.int (nI (a * b)) :: st) M) : P pc ls (.int (nI b) :: .int (nI a) :: st) M := r_imul hR hd (by rw [pk_mul]; exact k)
theorem r_isubN (hR : Bd G cc own nL d rt Q P) {a b : Nat} (h : b ≤ a) (hd : decode cc pc = .ok (.isub, 1)) (k : P (pc + 1) ls (.int (nI (a - b)) :: st) M) : P pc ls (.int (nI b) :: .int (nI a) :: st) M := r_isub hR hd (by rw [pk_sub h]; exact k)
theorem r_idivN (hR : Bd G cc own nL d rt Q P) {a b : Nat} (ha : a < 2 ^ 31) (h0 : 0 < b) (hb : b < 2 ^ 31) (hd : decode cc pc = .ok (.idiv, 1)) (k : P (pc + 1) ls (.int (nI (a / b)) :: st) M) : P pc ls (.int (nI b) :: .int (nI a) :: st) M := r_idiv hR (nI_ne0 h0 hb) hd (by rw [pk_div ha h0 hb]; exact k)
theorem r_iremN (hR : Bd G cc own nL d rt Q P) {a b : Nat} (ha : a < 2 ^ 31) (h0 : 0 < b) (hb : b < 2 ^ 31) (hd : decode cc pc = .ok (.irem, 1)) (k : P (pc + 1) ls (.int (nI (a % b)) :: st) M) : P pc ls (.int (nI b) :: .int (nI a) :: st) M := r_irem hR (nI_ne0 h0 hb) hd (by rw [pk_rem ha h0 hb]; exact k)
theorem r_iincN0 (hR : Bd G cc own nL d rt Q P) {r : List (Option Value)} {x : Nat} (hd : decode cc pc = .ok (.iinc 0 1, 3)) (k : P (pc + 3) (some (.int (nI (x + 1))) :: r) st M) : P pc (some (.int (nI x)) :: r) st M := r_iinc0 hR (nI 1) (by decide) hd (by rw [nI_add]; exact k)
theorem r_iincN1 (hR : Bd G cc own nL d rt Q P) {a0 : Option Value} {r : List (Option Value)} {x : Nat} (ho : ∀ v, a0 = some v → v.category = 1) (hd : decode cc pc = .ok (.iinc 1 1, 3)) (k : P (pc + 3) (a0 :: some (.int (nI (x + 1))) :: r) st M) : P pc (a0 :: some (.int (nI x)) :: r) st M := r_iinc1 hR (nI 1) (by decide) ho hd (by rw [nI_add]; exact k)
theorem r_iincN2 (hR : Bd G cc own nL d rt Q P) {a0 a1 : Option Value} {r : List (Option Value)} {x : Nat} (ho : ∀ v, a1 = some v → v.category = 1) (hd : decode cc pc = .ok (.iinc 2 1, 3)) (k : P (pc + 3) (a0 :: a1 :: some (.int (nI (x + 1))) :: r) st M) : P pc (a0 :: a1 :: some (.int (nI x)) :: r) st M := r_iinc2 hR (nI 1) (by decide) ho hd (by rw [nI_add]; exact k)
theorem r_iincN3 (hR : Bd G cc own nL d rt Q P) {a0 a1 a2 : Option Value} {r : List (Option Value)} {x : Nat} (ho : ∀ v, a2 = some v → v.category = 1) (hd : decode cc pc = .ok (.iinc 3 1, 3)) (k : P (pc + 3) (a0 :: a1 :: a2 :: some (.int (nI (x + 1))) :: r) st M) : P pc (a0 :: a1 :: a2 :: some (.int (nI x)) :: r) st M := r_iinc3 hR (nI 1) (by decide) ho hd (by rw [nI_add]; exact k)
theorem r_iincN4 (hR : Bd G cc own nL d rt Q P) {a0 a1 a2 a3 : Option Value} {r : List (Option Value)} {x : Nat} (ho : ∀ v, a3 = some v → v.category = 1) (hd : decode cc pc = .ok (.iinc 4 1, 3)) (k : P (pc + 3) (a0 :: a1 :: a2 :: a3 :: some (.int (nI (x + 1))) :: r) st M) : P pc (a0 :: a1 :: a2 :: a3 :: some (.int (nI x)) :: r) st M := r_iinc4 hR (nI 1) (by decide) ho hd (by rw [nI_add]; exact k)
theorem r_iincN5 (hR : Bd G cc own nL d rt Q P) {a0 a1 a2 a3 a4 : Option Value} {r : List (Option Value)} {x : Nat} (ho : ∀ v, a4 = some v → v.category = 1) (hd : decode cc pc = .ok (.iinc 5 1, 3)) (k : P (pc + 3) (a0 :: a1 :: a2 :: a3 :: a4 :: some (.int (nI (x + 1))) :: r) st M) : P pc (a0 :: a1 :: a2 :: a3 :: a4 :: some (.int (nI x)) :: r) st M := r_iinc5 hR (nI 1) (by decide) ho hd (by rw [nI_add]; exact k)
theorem r_iincN6 (hR : Bd G cc own nL d rt Q P) {a0 a1 a2 a3 a4 a5 : Option Value} {r : List (Option Value)} {x : Nat} (ho : ∀ v, a5 = some v → v.category = 1) (hd : decode cc pc = .ok (.iinc 6 1, 3)) (k : P (pc + 3) (a0 :: a1 :: a2 :: a3 :: a4 :: a5 :: some (.int (nI (x + 1))) :: r) st M) : P pc (a0 :: a1 :: a2 :: a3 :: a4 :: a5 :: some (.int (nI x)) :: r) st M := r_iinc6 hR (nI 1) (by decide) ho hd (by rw [nI_add]; exact k)
theorem r_iincN7 (hR : Bd G cc own nL d rt Q P) {a0 a1 a2 a3 a4 a5 a6 : Option Value} {r : List (Option Value)} {x : Nat} (ho : ∀ v, a6 = some v → v.category = 1) (hd : decode cc pc = .ok (.iinc 7 1, 3)) (k : P (pc + 3) (a0 :: a1 :: a2 :: a3 :: a4 :: a5 :: a6 :: some (.int (nI (x + 1))) :: r) st M) : P pc (a0 :: a1 :: a2 :: a3 :: a4 :: a5 :: a6 :: some (.int (nI x)) :: r) st M := r_iinc7 hR (nI 1) (by decide) ho hd (by rw [nI_add]; exact k)
theorem r_iincN8 (hR : Bd G cc own nL d rt Q P) {a0 a1 a2 a3 a4 a5 a6 a7 : Option Value} {r : List (Option Value)} {x : Nat} (ho : ∀ v, a7 = some v → v.category = 1) (hd : decode cc pc = .ok (.iinc 8 1, 3)) (k : P (pc + 3) (a0 :: a1 :: a2 :: a3 :: a4 :: a5 :: a6 :: a7 :: some (.int (nI (x + 1))) :: r) st M) : P pc (a0 :: a1 :: a2 :: a3 :: a4 :: a5 :: a6 :: a7 :: some (.int (nI x)) :: r) st M := r_iinc8 hR (nI 1) (by decide) ho hd (by rw [nI_add]; exact k)
theorem r_iincN9 (hR : Bd G cc own nL d rt Q P) {a0 a1 a2 a3 a4 a5 a6 a7 a8 : Option Value} {r : List (Option Value)} {x : Nat} (ho : ∀ v, a8 = some v → v.category = 1) (hd : decode cc pc = .ok (.iinc 9 1, 3)) (k : P (pc + 3) (a0 :: a1 :: a2 :: a3 :: a4 :: a5 :: a6 :: a7 :: a8 :: some (.int (nI (x + 1))) :: r) st M) : P pc (a0 :: a1 :: a2 :: a3 :: a4 :: a5 :: a6 :: a7 :: a8 :: some (.int (nI x)) :: r) st M := r_iinc9 hR (nI 1) (by decide) ho hd (by rw [nI_add]; exact k)
theorem r_iincN10 (hR : Bd G cc own nL d rt Q P) {a0 a1 a2 a3 a4 a5 a6 a7 a8 a9 : Option Value} {r : List (Option Value)} {x : Nat} (ho : ∀ v, a9 = some v → v.category = 1) (hd : decode cc pc = .ok (.iinc 10 1, 3)) (k : P (pc + 3) (a0 :: a1 :: a2 :: a3 :: a4 :: a5 :: a6 :: a7 :: a8 :: a9 :: some (.int (nI (x + 1))) :: r) st M) : P pc (a0 :: a1 :: a2 :: a3 :: a4 :: a5 :: a6 :: a7 :: a8 :: a9 :: some (.int (nI x)) :: r) st M := r_iinc10 hR (nI 1) (by decide) ho hd (by rw [nI_add]; exact k)
theorem r_swInN (hR : Bd G cc own nL d rt Q P) {k : Nat} (v : Nat) (hk : k = v) (hv : v < 2 ^ 31) {dflt lo hi : Int} {offs : Array Int} {len : Nat} {off : Int} (tgt : Nat) (hd : decode cc pc = .ok (.tableswitch dflt lo hi offs, len)) (h1 : ¬ (v : Int) < lo) (h2 : ¬ hi < (v : Int)) (ho : offs[((v : Int) - lo).toNat]? = some off) (ht : (pc : Int) + off = (tgt : Int)) (kk : P tgt ls st M) : P pc ls (.int (nI k) :: st) M := by
  subst hk
  exact r_swIn hR tgt hd (by rw [nI_toInt hv]; exact h1) (by rw [nI_toInt hv]; exact h2) (by rw [nI_toInt hv]; exact ho) ht kk
theorem r_swOutN (hR : Bd G cc own nL d rt Q P) {k : Nat} (hk : k < 2 ^ 31) {dflt lo hi : Int} {offs : Array Int} {len : Nat} (tgt : Nat) (hd : decode cc pc = .ok (.tableswitch dflt lo hi offs, len)) (h : (k : Int) < lo ∨ hi < (k : Int)) (ht : (pc : Int) + dflt = (tgt : Int)) (kk : P tgt ls st M) : P pc ls (.int (nI k) :: st) M :=
  r_swOut hR tgt hd (by rw [nI_toInt hk]; exact h) ht kk
end Rows
theorem seti_r (M : gM) (r i k : Nat) (x : Int32) (r' i' k' : Nat) : (seti M r i k x).1 r' i' k' = if r' = r ∧ i' = i ∧ k' = k then x else M.1 r' i' k' := by
  unfold seti
  by_cases h : r' = r ∧ i' = i
  · obtain ⟨rfl, rfl⟩ := h
    simp [upd]
  · have : ¬ (r' = r ∧ i' = i ∧ k' = k) := fun q => h ⟨q.1, q.2.1⟩
    simp only [if_neg h, if_neg this]
theorem setl_r (M : gM) (r i k : Nat) (x : Int64) (r' i' k' : Nat) : (setl M r i k x).2 r' i' k' = if r' = r ∧ i' = i ∧ k' = k then x else M.2 r' i' k' := by
  unfold setl
  by_cases h : r' = r ∧ i' = i
  · obtain ⟨rfl, rfl⟩ := h
    simp [vp_updL]
  · have : ¬ (r' = r ∧ i' = i ∧ k' = k) := fun q => h ⟨q.1, q.2.1⟩
    simp only [if_neg h, if_neg this]
theorem setl_1 (M : gM) (r i k : Nat) (x : Int64) : (setl M r i k x).1 = M.1 := rfl
theorem seti_2 (M : gM) (r i k : Nat) (x : Int32) : (seti M r i k x).2 = M.2 := rfl
theorem nx_or (a b : Nat) : nI a ||| nI b = nI (a ||| b) := by
  apply Int32.toBitVec_inj.mp
  show (BitVec.ofNat 32 a) ||| (BitVec.ofNat 32 b) = BitVec.ofNat 32 (a ||| b)
  rw [BitVec.ofNat_or]
theorem nx_and (a b : Nat) : nI a &&& nI b = nI (a &&& b) := by
  apply Int32.toBitVec_inj.mp
  show (BitVec.ofNat 32 a) &&& (BitVec.ofNat 32 b) = BitVec.ofNat 32 (a &&& b)
  rw [BitVec.ofNat_and]
theorem nx_xor (a b : Nat) : nI a ^^^ nI b = nI (a ^^^ b) := by
  apply Int32.toBitVec_inj.mp
  show (BitVec.ofNat 32 a) ^^^ (BitVec.ofNat 32 b) = BitVec.ofNat 32 (a ^^^ b)
  rw [BitVec.ofNat_xor]
theorem mx0 {a b : Nat} (ha : a < 2 ^ 30) (hb : b < 2 ^ 30) : (if nI 0 < nI a - nI b then nI a - nI b else nI 0) = nI (a - b) := by
  have h := pk_sub_toInt ha hb
  by_cases q : b < a
  · rw [if_pos (by rw [cv_lt, h, cv_0]; omega), pk_sub (by omega)]
  · rw [if_neg (by rw [cv_lt, h, cv_0]; omega), show a - b = 0 by omega]
theorem mn {a b : Nat} (ha : a < 2 ^ 31) (hb : b < 2 ^ 31) : (if nI b < nI a then nI b else nI a) = nI (if a < b then a else b) := by
  simp only [nI_ltI hb ha]
  split <;> split <;> first | rfl | omega | (congr 1; omega)
set_option maxHeartbeats 4000000 in
set_option maxRecDepth 100000 in
theorem t_X7_within {G : gG} {M : gM} {x y : Int32} : Cf G mX7_within 0 [.int x, .int y] M (some (.int (bI (0 ≤ x.toInt ∧ x.toInt ≤ y.toInt)))) M := by
  refine Ct.of (by decide) (k := 0) rfl rfl (fun _ _ => trivial) ?_
  intro P hR
  refine r_iload0 hR dX7_within_0 ?_
  refine r_if_lt hR 13 dX7_within_1 (by decide) (fun c1 => ?_) (fun c1 => ?_)
  · try simp (disch := omega) only [nI_ltI, nI_leI, nI_eq, bI_0, Decidable.not_not, lc_lt, lc_gt, lc_ge, lc_le, lc_eq, i64_toInt] at c1
    try simp (disch := omega) only [cv_lt, cv_le, cv_eq, nI_toInt, cv_0] at c1
    first
    | omega
    | refine r_iconst hR (nI 0) (by decide) dX7_within_13 ?_
      refine r_zret hR dX7_within_14 rfl ?_
      refine ⟨?_, rfl⟩
      first | (rw [bI_t]; omega) | (rw [bI_f]; omega)
  · try simp (disch := omega) only [nI_ltI, nI_leI, nI_eq, bI_0, Decidable.not_not, lc_lt, lc_gt, lc_ge, lc_le, lc_eq, i64_toInt] at c1
    try simp (disch := omega) only [cv_lt, cv_le, cv_eq, nI_toInt, cv_0] at c1
    first
    | omega
    | refine r_iload0 hR dX7_within_4 ?_
      refine r_iload1 hR dX7_within_5 ?_
      refine r_icmp_gt hR 13 dX7_within_6 (by decide) (fun c6 => ?_) (fun c6 => ?_)
      · try simp (disch := omega) only [nI_ltI, nI_leI, nI_eq, bI_0, Decidable.not_not, lc_lt, lc_gt, lc_ge, lc_le, lc_eq, i64_toInt] at c6
        try simp (disch := omega) only [cv_lt, cv_le, cv_eq, nI_toInt, cv_0] at c6
        first
        | omega
        | refine r_iconst hR (nI 0) (by decide) dX7_within_13 ?_
          refine r_zret hR dX7_within_14 rfl ?_
          refine ⟨?_, rfl⟩
          first | (rw [bI_t]; omega) | (rw [bI_f]; omega)
      · try simp (disch := omega) only [nI_ltI, nI_leI, nI_eq, bI_0, Decidable.not_not, lc_lt, lc_gt, lc_ge, lc_le, lc_eq, i64_toInt] at c6
        try simp (disch := omega) only [cv_lt, cv_le, cv_eq, nI_toInt, cv_0] at c6
        first
        | omega
        | refine r_iconst hR (nI 1) (by decide) dX7_within_9 ?_
          refine r_goto hR 14 dX7_within_10 (by decide) ?_
          refine r_zret hR dX7_within_14 rfl ?_
          refine ⟨?_, rfl⟩
          first | (rw [bI_t]; omega) | (rw [bI_f]; omega)

set_option maxHeartbeats 4000000 in
set_option maxRecDepth 100000 in
theorem t_X7_isSpan {G : gG} {M : gM} {x y : Int32} : Cf G mX7_isSpan 0 [.int x, .int y] M (some (.int (bI (1 ≤ x.toInt ∧ x.toInt ≤ y.toInt)))) M := by
  refine Ct.of (by decide) (k := 0) rfl rfl (fun _ _ => trivial) ?_
  intro P hR
  refine r_iload0 hR dX7_isSpan_0 ?_
  refine r_iconst hR (nI 1) (by decide) dX7_isSpan_1 ?_
  refine r_icmp_lt hR 14 dX7_isSpan_2 (by decide) (fun c2 => ?_) (fun c2 => ?_)
  · try simp (disch := omega) only [nI_ltI, nI_leI, nI_eq, bI_0, Decidable.not_not, lc_lt, lc_gt, lc_ge, lc_le, lc_eq, i64_toInt] at c2
    try simp (disch := omega) only [cv_lt, cv_le, cv_eq, nI_toInt, cv_0] at c2
    first
    | omega
    | refine r_iconst hR (nI 0) (by decide) dX7_isSpan_14 ?_
      refine r_zret hR dX7_isSpan_15 rfl ?_
      refine ⟨?_, rfl⟩
      first | (rw [bI_t]; omega) | (rw [bI_f]; omega)
  · try simp (disch := omega) only [nI_ltI, nI_leI, nI_eq, bI_0, Decidable.not_not, lc_lt, lc_gt, lc_ge, lc_le, lc_eq, i64_toInt] at c2
    try simp (disch := omega) only [cv_lt, cv_le, cv_eq, nI_toInt, cv_0] at c2
    first
    | omega
    | refine r_iload0 hR dX7_isSpan_5 ?_
      refine r_iload1 hR dX7_isSpan_6 ?_
      refine r_icmp_gt hR 14 dX7_isSpan_7 (by decide) (fun c7 => ?_) (fun c7 => ?_)
      · try simp (disch := omega) only [nI_ltI, nI_leI, nI_eq, bI_0, Decidable.not_not, lc_lt, lc_gt, lc_ge, lc_le, lc_eq, i64_toInt] at c7
        try simp (disch := omega) only [cv_lt, cv_le, cv_eq, nI_toInt, cv_0] at c7
        first
        | omega
        | refine r_iconst hR (nI 0) (by decide) dX7_isSpan_14 ?_
          refine r_zret hR dX7_isSpan_15 rfl ?_
          refine ⟨?_, rfl⟩
          first | (rw [bI_t]; omega) | (rw [bI_f]; omega)
      · try simp (disch := omega) only [nI_ltI, nI_leI, nI_eq, bI_0, Decidable.not_not, lc_lt, lc_gt, lc_ge, lc_le, lc_eq, i64_toInt] at c7
        try simp (disch := omega) only [cv_lt, cv_le, cv_eq, nI_toInt, cv_0] at c7
        first
        | omega
        | refine r_iconst hR (nI 1) (by decide) dX7_isSpan_10 ?_
          refine r_goto hR 15 dX7_isSpan_11 (by decide) ?_
          refine r_zret hR dX7_isSpan_15 rfl ?_
          refine ⟨?_, rfl⟩
          first | (rw [bI_t]; omega) | (rw [bI_f]; omega)

set_option maxHeartbeats 4000000 in
set_option maxRecDepth 100000 in
theorem t_X7_mostOf {G : gG} {M : gM} {n : Nat} (h : n < 4) : Cf G mX7_mostOf 0 [.int (nI n)] M (some (.int (nI (if n = 1 then 35 else if n = 2 then 7 else 99999)))) M := by
  refine Ct.of (by decide) (k := 0) rfl rfl (fun _ _ => trivial) ?_
  intro P hR
  refine r_iload0 hR dX7_mostOf_0 ?_
  refine r_iconst hR (nI 1) (by decide) dX7_mostOf_1 ?_
  refine r_icmp_ne hR 8 dX7_mostOf_2 (by decide) (fun c2 => ?_) (fun c2 => ?_)
  · try simp (disch := omega) only [nI_ltI, nI_leI, nI_eq, bI_0, Decidable.not_not, lc_lt, lc_gt, lc_ge, lc_le, lc_eq, i64_toInt] at c2
    try simp (disch := omega) only [cv_lt, cv_le, cv_eq, nI_toInt, cv_0] at c2
    first
    | omega
    | refine r_iload0 hR dX7_mostOf_8 ?_
      refine r_iconst hR (nI 2) (by decide) dX7_mostOf_9 ?_
      refine r_icmp_ne hR 18 dX7_mostOf_10 (by decide) (fun c10 => ?_) (fun c10 => ?_)
      · try simp (disch := omega) only [nI_ltI, nI_leI, nI_eq, bI_0, Decidable.not_not, lc_lt, lc_gt, lc_ge, lc_le, lc_eq, i64_toInt] at c10
        try simp (disch := omega) only [cv_lt, cv_le, cv_eq, nI_toInt, cv_0] at c10
        first
        | omega
        | refine r_ldcN hR ct_X7_219 99999 (by decide) dX7_mostOf_18 ?_
          refine r_iret hR dX7_mostOf_20 ?_
          refine ⟨congrArg (fun z => some (Value.int (nI z))) ?_, rfl⟩
          (repeat' split) <;> omega
      · try simp (disch := omega) only [nI_ltI, nI_leI, nI_eq, bI_0, Decidable.not_not, lc_lt, lc_gt, lc_ge, lc_le, lc_eq, i64_toInt] at c10
        try simp (disch := omega) only [cv_lt, cv_le, cv_eq, nI_toInt, cv_0] at c10
        first
        | omega
        | refine r_bipush hR (nI 7) (by decide) dX7_mostOf_13 ?_
          refine r_goto hR 20 dX7_mostOf_15 (by decide) ?_
          refine r_iret hR dX7_mostOf_20 ?_
          refine ⟨congrArg (fun z => some (Value.int (nI z))) ?_, rfl⟩
          (repeat' split) <;> omega
  · try simp (disch := omega) only [nI_ltI, nI_leI, nI_eq, bI_0, Decidable.not_not, lc_lt, lc_gt, lc_ge, lc_le, lc_eq, i64_toInt] at c2
    try simp (disch := omega) only [cv_lt, cv_le, cv_eq, nI_toInt, cv_0] at c2
    first
    | omega
    | refine r_bipush hR (nI 35) (by decide) dX7_mostOf_5 ?_
      refine r_iret hR dX7_mostOf_7 ?_
      refine ⟨congrArg (fun z => some (Value.int (nI z))) ?_, rfl⟩
      (repeat' split) <;> omega

set_option maxHeartbeats 4000000 in
set_option maxRecDepth 100000 in
theorem t_X7_kindAbove {G : gG} {M : gM} {n : Nat} (h : n < 6) : Cf G mX7_kindAbove 0 [.int (nI n)] M (some (.int (nI (if n = 4 then 1 else if n = 5 then 2 else 0)))) M := by
  refine Ct.of (by decide) (k := 0) rfl rfl (fun _ _ => trivial) ?_
  intro P hR
  refine r_iload0 hR dX7_kindAbove_0 ?_
  refine r_iconst hR (nI 4) (by decide) dX7_kindAbove_1 ?_
  refine r_icmp_ne hR 7 dX7_kindAbove_2 (by decide) (fun c2 => ?_) (fun c2 => ?_)
  · try simp (disch := omega) only [nI_ltI, nI_leI, nI_eq, bI_0, Decidable.not_not, lc_lt, lc_gt, lc_ge, lc_le, lc_eq, i64_toInt] at c2
    try simp (disch := omega) only [cv_lt, cv_le, cv_eq, nI_toInt, cv_0] at c2
    first
    | omega
    | refine r_iload0 hR dX7_kindAbove_7 ?_
      refine r_iconst hR (nI 5) (by decide) dX7_kindAbove_8 ?_
      refine r_icmp_ne hR 16 dX7_kindAbove_9 (by decide) (fun c9 => ?_) (fun c9 => ?_)
      · try simp (disch := omega) only [nI_ltI, nI_leI, nI_eq, bI_0, Decidable.not_not, lc_lt, lc_gt, lc_ge, lc_le, lc_eq, i64_toInt] at c9
        try simp (disch := omega) only [cv_lt, cv_le, cv_eq, nI_toInt, cv_0] at c9
        first
        | omega
        | refine r_iconst hR (nI 0) (by decide) dX7_kindAbove_16 ?_
          refine r_iret hR dX7_kindAbove_17 ?_
          refine ⟨congrArg (fun z => some (Value.int (nI z))) ?_, rfl⟩
          (repeat' split) <;> omega
      · try simp (disch := omega) only [nI_ltI, nI_leI, nI_eq, bI_0, Decidable.not_not, lc_lt, lc_gt, lc_ge, lc_le, lc_eq, i64_toInt] at c9
        try simp (disch := omega) only [cv_lt, cv_le, cv_eq, nI_toInt, cv_0] at c9
        first
        | omega
        | refine r_iconst hR (nI 2) (by decide) dX7_kindAbove_12 ?_
          refine r_goto hR 17 dX7_kindAbove_13 (by decide) ?_
          refine r_iret hR dX7_kindAbove_17 ?_
          refine ⟨congrArg (fun z => some (Value.int (nI z))) ?_, rfl⟩
          (repeat' split) <;> omega
  · try simp (disch := omega) only [nI_ltI, nI_leI, nI_eq, bI_0, Decidable.not_not, lc_lt, lc_gt, lc_ge, lc_le, lc_eq, i64_toInt] at c2
    try simp (disch := omega) only [cv_lt, cv_le, cv_eq, nI_toInt, cv_0] at c2
    first
    | omega
    | refine r_iconst hR (nI 1) (by decide) dX7_kindAbove_5 ?_
      refine r_iret hR dX7_kindAbove_6 ?_
      refine ⟨congrArg (fun z => some (Value.int (nI z))) ?_, rfl⟩
      (repeat' split) <;> omega

set_option maxHeartbeats 4000000 in
set_option maxRecDepth 100000 in
theorem t_X8_in {G : gG} {M : gM} {v : Int64} {x y : Int32} : Cf G mX8_in 0 [.long v, .int x, .int y] M (some (.int (bI (x.toInt ≤ v.toInt ∧ v.toInt ≤ y.toInt)))) M := by
  refine Ct.of (by decide) (k := 0) rfl rfl (fun _ _ => trivial) ?_
  intro P hR
  refine r_lload0 hR dX8_in_0 ?_
  refine r_iload2 hR dX8_in_1 ?_
  refine r_i2l hR dX8_in_2 ?_
  refine r_lcmp hR dX8_in_3 ?_
  refine r_if_lt hR 18 dX8_in_4 (by decide) (fun c4 => ?_) (fun c4 => ?_)
  · try simp (disch := omega) only [nI_ltI, nI_leI, nI_eq, bI_0, Decidable.not_not, lc_lt, lc_gt, lc_ge, lc_le, lc_eq, i64_toInt] at c4
    try simp (disch := omega) only [cv_lt, cv_le, cv_eq, nI_toInt, cv_0] at c4
    first
    | omega
    | refine r_iconst hR (nI 0) (by decide) dX8_in_18 ?_
      refine r_zret hR dX8_in_19 rfl ?_
      refine ⟨?_, rfl⟩
      first | (rw [bI_t]; omega) | (rw [bI_f]; omega)
  · try simp (disch := omega) only [nI_ltI, nI_leI, nI_eq, bI_0, Decidable.not_not, lc_lt, lc_gt, lc_ge, lc_le, lc_eq, i64_toInt] at c4
    try simp (disch := omega) only [cv_lt, cv_le, cv_eq, nI_toInt, cv_0] at c4
    first
    | omega
    | refine r_lload0 hR dX8_in_7 ?_
      refine r_iload3 hR dX8_in_8 ?_
      refine r_i2l hR dX8_in_9 ?_
      refine r_lcmp hR dX8_in_10 ?_
      refine r_if_gt hR 18 dX8_in_11 (by decide) (fun c11 => ?_) (fun c11 => ?_)
      · try simp (disch := omega) only [nI_ltI, nI_leI, nI_eq, bI_0, Decidable.not_not, lc_lt, lc_gt, lc_ge, lc_le, lc_eq, i64_toInt] at c11
        try simp (disch := omega) only [cv_lt, cv_le, cv_eq, nI_toInt, cv_0] at c11
        first
        | omega
        | refine r_iconst hR (nI 0) (by decide) dX8_in_18 ?_
          refine r_zret hR dX8_in_19 rfl ?_
          refine ⟨?_, rfl⟩
          first | (rw [bI_t]; omega) | (rw [bI_f]; omega)
      · try simp (disch := omega) only [nI_ltI, nI_leI, nI_eq, bI_0, Decidable.not_not, lc_lt, lc_gt, lc_ge, lc_le, lc_eq, i64_toInt] at c11
        try simp (disch := omega) only [cv_lt, cv_le, cv_eq, nI_toInt, cv_0] at c11
        first
        | omega
        | refine r_iconst hR (nI 1) (by decide) dX8_in_14 ?_
          refine r_goto hR 19 dX8_in_15 (by decide) ?_
          refine r_zret hR dX8_in_19 rfl ?_
          refine ⟨?_, rfl⟩
          first | (rw [bI_t]; omega) | (rw [bI_f]; omega)

set_option maxHeartbeats 4000000 in
set_option maxRecDepth 100000 in
theorem t_X8_held {G : gG} {M : gM} {x y z : Int32} : Cf G mX8_held 0 [.int x, .int y, .int z] M (some (.int (if x.toInt < y.toInt then y else if z.toInt < x.toInt then z else x))) M := by
  refine Ct.of (by decide) (k := 0) rfl rfl (fun _ _ => trivial) ?_
  intro P hR
  refine r_iload0 hR dX8_held_0 ?_
  refine r_iload1 hR dX8_held_1 ?_
  refine r_icmp_ge hR 9 dX8_held_2 (by decide) (fun c2 => ?_) (fun c2 => ?_)
  · try simp (disch := omega) only [nI_ltI, nI_leI, nI_eq, bI_0, Decidable.not_not, lc_lt, lc_gt, lc_ge, lc_le, lc_eq, i64_toInt] at c2
    try simp (disch := omega) only [cv_lt, cv_le, cv_eq, nI_toInt, cv_0] at c2
    first
    | omega
    | refine r_iload0 hR dX8_held_9 ?_
      refine r_iload2 hR dX8_held_10 ?_
      refine r_icmp_le hR 18 dX8_held_11 (by decide) (fun c11 => ?_) (fun c11 => ?_)
      · try simp (disch := omega) only [nI_ltI, nI_leI, nI_eq, bI_0, Decidable.not_not, lc_lt, lc_gt, lc_ge, lc_le, lc_eq, i64_toInt] at c11
        try simp (disch := omega) only [cv_lt, cv_le, cv_eq, nI_toInt, cv_0] at c11
        first
        | omega
        | refine r_iload0 hR dX8_held_18 ?_
          refine r_iret hR dX8_held_19 ?_
          refine ⟨congrArg (fun z => some (Value.int z)) ?_, rfl⟩
          (repeat' split) <;> first | rfl | omega
      · try simp (disch := omega) only [nI_ltI, nI_leI, nI_eq, bI_0, Decidable.not_not, lc_lt, lc_gt, lc_ge, lc_le, lc_eq, i64_toInt] at c11
        try simp (disch := omega) only [cv_lt, cv_le, cv_eq, nI_toInt, cv_0] at c11
        first
        | omega
        | refine r_iload2 hR dX8_held_14 ?_
          refine r_goto hR 19 dX8_held_15 (by decide) ?_
          refine r_iret hR dX8_held_19 ?_
          refine ⟨congrArg (fun z => some (Value.int z)) ?_, rfl⟩
          (repeat' split) <;> first | rfl | omega
  · try simp (disch := omega) only [nI_ltI, nI_leI, nI_eq, bI_0, Decidable.not_not, lc_lt, lc_gt, lc_ge, lc_le, lc_eq, i64_toInt] at c2
    try simp (disch := omega) only [cv_lt, cv_le, cv_eq, nI_toInt, cv_0] at c2
    first
    | omega
    | refine r_iload1 hR dX8_held_5 ?_
      refine r_goto hR 19 dX8_held_6 (by decide) ?_
      refine r_iret hR dX8_held_19 ?_
      refine ⟨congrArg (fun z => some (Value.int z)) ?_, rfl⟩
      (repeat' split) <;> first | rfl | omega

