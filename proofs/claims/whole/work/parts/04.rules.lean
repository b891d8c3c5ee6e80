/-! THE ROWS: hR says what P is; a row turns P at an instruction into P at the next -/
theorem hasL.at {lsA : Array Slot} {nL : Nat} {ls : List (Option Value)} (h : hasL lsA nL ls) {i : Nat} {v : Value} (hi : ls[i]? = some (some v)) : lsA[i]? = some (.val v) := by
  obtain ⟨-, lv, h1, h2⟩ := h
  exact h1.2.2 _ (h2 i v hi)
/-- the place below isn't a long's -/
def okSt (ls : List (Option Value)) (i : Nat) : Prop := ∀ (v : Value) (j : Nat), j + 1 = i → ls[j]? = some (some v) → v.category = 1
theorem hasL.f1 {lsA : Array Slot} {nL : Nat} {ls : List (Option Value)} {lv : List (Nat × Value)} (h1 : lv_has lsA nL lv) (h2 : ∀ (i : Nat) (v : Value), ls[i]? = some (some v) → (i, v) ∈ lv) {i : Nat} {v : Value} (hi : i < ls.length) (hok : okSt ls i) : ∀ (j : Nat) (w : Value), (ls.set i (some v))[j]? = some (some w) → (j, w) ∈ (i, v) :: lv.filter (fun q => !(q.1 == i) && !(q.1 + 1 == i && q.2.category == 2)) := by
  intro j w hj
  rw [List.getElem?_set] at hj
  by_cases e : i = j
  · rw [if_pos e, if_pos hi] at hj
    simp only [Option.some.injEq] at hj
    subst hj; subst e
    exact List.mem_cons_self
  · rw [if_neg e] at hj
    refine List.mem_cons_of_mem _ (List.mem_filter.mpr ⟨h2 j w hj, ?_⟩)
    by_cases e2 : j + 1 = i
    · have := hok w j e2 hj
      simp [this]; omega
    · simp [e2]; omega
theorem hasL.f2 {lsA : Array Slot} {nL : Nat} {ls : List (Option Value)} {lv : List (Nat × Value)} (h1 : lv_has lsA nL lv) (h2 : ∀ (i : Nat) (v : Value), ls[i]? = some (some v) → (i, v) ∈ lv) {i : Nat} {v : Value} (hi : i < ls.length) (hok : okSt ls i) : ∀ (j : Nat) (w : Value), ((ls.set i (some v)).set (i + 1) none)[j]? = some (some w) → (j, w) ∈ (i, v) :: lv.filter (fun q => !(q.1 == i) && (!(q.1 == i + 1) && !(q.1 + 1 == i && q.2.category == 2))) := by
  intro j w hj
  rw [List.getElem?_set] at hj
  by_cases e0 : i + 1 = j
  · rw [if_pos e0] at hj
    split at hj <;> simp at hj
  · rw [if_neg e0, List.getElem?_set] at hj
    by_cases e : i = j
    · rw [if_pos e, if_pos hi] at hj
      simp only [Option.some.injEq] at hj
      subst hj; subst e
      exact List.mem_cons_self
    · rw [if_neg e] at hj
      refine List.mem_cons_of_mem _ (List.mem_filter.mpr ⟨h2 j w hj, ?_⟩)
      by_cases e2 : j + 1 = i
      · have := hok w j e2 hj
        simp [this]; omega
      · simp [e2]; omega
theorem okSt_of0 {r : List (Option Value)} : okSt r 0 := fun v j e h => absurd e (by omega)
theorem okSt_of1 {a0 : Option Value} {r : List (Option Value)} (ho : ∀ v, a0 = some v → v.category = 1) : okSt (a0 :: r) 1 := by
  intro v j e h
  obtain rfl : j = 0 := by omega
  exact ho v (Option.some.inj h)
theorem okSt_of2 {a0 a1 : Option Value} {r : List (Option Value)} (ho : ∀ v, a1 = some v → v.category = 1) : okSt (a0 :: a1 :: r) 2 := by
  intro v j e h
  obtain rfl : j = 1 := by omega
  exact ho v (Option.some.inj h)
theorem okSt_of3 {a0 a1 a2 : Option Value} {r : List (Option Value)} (ho : ∀ v, a2 = some v → v.category = 1) : okSt (a0 :: a1 :: a2 :: r) 3 := by
  intro v j e h
  obtain rfl : j = 2 := by omega
  exact ho v (Option.some.inj h)
theorem okSt_of4 {a0 a1 a2 a3 : Option Value} {r : List (Option Value)} (ho : ∀ v, a3 = some v → v.category = 1) : okSt (a0 :: a1 :: a2 :: a3 :: r) 4 := by
  intro v j e h
  obtain rfl : j = 3 := by omega
  exact ho v (Option.some.inj h)
theorem okSt_of5 {a0 a1 a2 a3 a4 : Option Value} {r : List (Option Value)} (ho : ∀ v, a4 = some v → v.category = 1) : okSt (a0 :: a1 :: a2 :: a3 :: a4 :: r) 5 := by
  intro v j e h
  obtain rfl : j = 4 := by omega
  exact ho v (Option.some.inj h)
theorem okSt_of6 {a0 a1 a2 a3 a4 a5 : Option Value} {r : List (Option Value)} (ho : ∀ v, a5 = some v → v.category = 1) : okSt (a0 :: a1 :: a2 :: a3 :: a4 :: a5 :: r) 6 := by
  intro v j e h
  obtain rfl : j = 5 := by omega
  exact ho v (Option.some.inj h)
theorem okSt_of7 {a0 a1 a2 a3 a4 a5 a6 : Option Value} {r : List (Option Value)} (ho : ∀ v, a6 = some v → v.category = 1) : okSt (a0 :: a1 :: a2 :: a3 :: a4 :: a5 :: a6 :: r) 7 := by
  intro v j e h
  obtain rfl : j = 6 := by omega
  exact ho v (Option.some.inj h)
theorem okSt_of8 {a0 a1 a2 a3 a4 a5 a6 a7 : Option Value} {r : List (Option Value)} (ho : ∀ v, a7 = some v → v.category = 1) : okSt (a0 :: a1 :: a2 :: a3 :: a4 :: a5 :: a6 :: a7 :: r) 8 := by
  intro v j e h
  obtain rfl : j = 7 := by omega
  exact ho v (Option.some.inj h)
theorem okSt_of9 {a0 a1 a2 a3 a4 a5 a6 a7 a8 : Option Value} {r : List (Option Value)} (ho : ∀ v, a8 = some v → v.category = 1) : okSt (a0 :: a1 :: a2 :: a3 :: a4 :: a5 :: a6 :: a7 :: a8 :: r) 9 := by
  intro v j e h
  obtain rfl : j = 8 := by omega
  exact ho v (Option.some.inj h)
theorem okSt_of10 {a0 a1 a2 a3 a4 a5 a6 a7 a8 a9 : Option Value} {r : List (Option Value)} (ho : ∀ v, a9 = some v → v.category = 1) : okSt (a0 :: a1 :: a2 :: a3 :: a4 :: a5 :: a6 :: a7 :: a8 :: a9 :: r) 10 := by
  intro v j e h
  obtain rfl : j = 9 := by omega
  exact ho v (Option.some.inj h)
def entL : List Value → List (Option Value)
  | [] => []
  | v :: vs => if v.category = 2 then some v :: none :: entL vs else some v :: entL vs
theorem entL_in (vs : List Value) : ∀ (o i : Nat) (v : Value), (entL vs)[i]? = some (some v) → (o + i, v) ∈ lv_args o vs := by
  induction vs with
  | nil => intro o i v h; simp [entL] at h
  | cons a vs ih =>
    intro o i v h
    unfold entL at h
    unfold lv_args
    split at h
    · match i, h with
      | 0, h => simp at h; subst h; exact List.mem_cons_self
      | 1, h => simp at h
      | i + 2, h =>
        refine List.mem_cons_of_mem _ ?_
        rw [if_pos (by assumption)]
        have := ih (o + 2) i v (by simpa using h)
        rwa [show o + (i + 2) = o + 2 + i by omega]
    · match i, h with
      | 0, h => simp at h; subst h; exact List.mem_cons_self
      | i + 1, h =>
        refine List.mem_cons_of_mem _ ?_
        rw [if_neg (by assumption)]
        have := ih (o + 1) i v (by simpa using h)
        rwa [show o + (i + 1) = o + 1 + i by omega]
theorem entL_len (vs : List Value) : (entL vs).length = (lg_sl vs).length := by
  induction vs with
  | nil => rfl
  | cons a vs ih =>
    unfold entL lg_sl
    rw [List.flatMap_cons]
    split <;> simp [ih, lg_sl] <;> omega
theorem hasL_entry (vs : List Value) {n k : Nat} {ls0 : List (Option Value)} (h0 : entL vs ++ List.replicate k none = ls0) (hn : ls0.length = n) : hasL ((lg_sl vs ++ List.replicate (n - (lg_sl vs).length) Slot.unset).toArray) n ls0 := by
  have hle : (lg_sl vs).length ≤ n := by rw [← entL_len, ← hn, ← h0]; simp
  refine ⟨hn, _, lv_entry vs hle, fun i v h => ?_⟩
  rw [← h0, List.getElem?_append] at h
  split at h
  · have := entL_in vs 0 i v h
    simpa using this
  · rw [List.getElem?_replicate] at h
    split at h <;> simp at h
/-- a contract, out of the rows -/
theorem Ct.of {G : gG} {Y : gY} {dd : Nat} {vs : List Value} {M : gM} {Q : Option Value → gM → Prop} (hy : plainName Y.1.cls = true) {k : Nat} {ls0 : List (Option Value)} (h0 : entL vs ++ List.replicate k none = ls0) (hn : ls0.length = Y.2.2.1) (hrt : ∀ ty, Y.2.2.2 = some ty → True)
    (body : ∀ P : gP, Bd G Y.2.1 Y.1.cls Y.2.2.1 dd Y.2.2.2 Q P → P 0 ls0 [] M) : Ct G Y dd vs M Q := by
  intro l
  refine Met.ofW (cc := Y.2.1) (maxL := Y.2.2.1) (ret := Y.2.2.2) hy rfl ?_
  intro p e s m args below meth c s₁ B hml hv
  obtain ⟨rfl, hgS, hgH⟩ := hv
  have hts := atoms_spec (ws := wsY Y) B.pre
  have hown : s.vm.findClass Y.1.cls = some m.cls := findClass_of_methodNamed B.named
  have hlocks := B.notSynchronized
  have hx := B.exec
  have hb := B.bytes
  have hr := B.returns
  rw [lg_entry_eq]
  have key := body (fun pc ls st M => ∀ (H : Heap) (locs : List Loc) (lsA : Array Slot), hasL lsA Y.2.2.1 ls → gH G M H → va_S (fr G) s.heap H locs → W p l e (headSpec (wsY Y) (rmD dd)).room s m vs.toArray below meth c H locs 0 0 (MQ below (fun _ st oc t => ∃ (v : Option Value) (M' : gM), oc = .returned v ∧ Q v M' ∧ gH G M' t.heap ∧ va_F (fr G) st t) vs.toArray s 0 0 (fr G)) (F0 m pc lsA st))
    ⟨p, l, e, (headSpec (wsY Y) (rmD dd)).room, s, m, vs.toArray, below, meth, c, 0, 0, _, hx, hb, hml, hown, fun w hw => hts w (List.mem_cons_of_mem _ hw), ⟨Nat.le_refl dd, Nat.le_refl (30 * dd), Nat.le_refl 0, Nat.le_refl 0⟩, hgS, fun pc ls st M => Iff.rfl, ?_, ?_, ?_⟩
  · exact key s.heap [] _ (hasL_entry vs h0 hn) hgH va_S.rf
  · intro pc ls x M' ty hty hd hnar hQ H locs lsA h1 h2 h3
    exact W.zret (ty := ty) hx hb (by rw [hr]; exact hty) hnar (fun t ht hW => ⟨_, M', rfl, hQ, by rw [ht]; exact h2, h3.F ht⟩) h3.2.2 hd
  · intro pc ls x M' hty hd hQ H locs lsA h1 h2 h3
    exact W.lret hx hb (by rw [hr]; exact hty) (fun t ht hW => ⟨_, M', rfl, hQ, by rw [ht]; exact h2, h3.F ht⟩) h3.2.2 hd
  · intro pc ls M' hty hd hQ H locs lsA h1 h2 h3
    exact W.vret hx hb (by rw [hr]; exact hty) (fun t ht hW => ⟨_, M', rfl, hQ, by rw [ht]; exact h2, h3.F ht⟩) h3.2.2 hd
section Rows
variable {G : gG} {cc : ByteArray} {own : String} {nL d : Nat} {rt : Option FieldType} {Q : Option Value → gM → Prop} {P : gP} {pc : Nat} {ls : List (Option Value)} {st : List Value} {M : gM}
theorem r_iconst (hR : Bd G cc own nL d rt Q P) {n : Int} (x : Int32) (hv : Int32.ofInt n = x) (hd : decode cc pc = .ok (.iconst n, 1)) (k : P (pc + 1) ls (.int x :: st) M) : P pc ls (st) M := by
  obtain ⟨p, l, e, R, s, m, args, below, meth, c, cells, slots, QQ, hx, hb, hml, hown, hts, hroom, hS0, hP, hret⟩ := hR
  exact (hP _ _ _ _).mpr fun H locs lsA h1 h2 h3 => lv_iconst hx hb hd hv ((hP _ _ _ _).mp k H locs lsA h1 h2 h3)
theorem r_bipush (hR : Bd G cc own nL d rt Q P) {n : Int} (x : Int32) (hv : (Int8.ofInt n).toInt32 = x) (hd : decode cc pc = .ok (.bipush n, 2)) (k : P (pc + 2) ls (.int x :: st) M) : P pc ls (st) M := by
  obtain ⟨p, l, e, R, s, m, args, below, meth, c, cells, slots, QQ, hx, hb, hml, hown, hts, hroom, hS0, hP, hret⟩ := hR
  exact (hP _ _ _ _).mpr fun H locs lsA h1 h2 h3 => lv_bipush hx hb hd hv ((hP _ _ _ _).mp k H locs lsA h1 h2 h3)
theorem r_sipush (hR : Bd G cc own nL d rt Q P) {n : Int} (x : Int32) (hv : (Int16.ofInt n).toInt32 = x) (hd : decode cc pc = .ok (.sipush n, 3)) (k : P (pc + 3) ls (.int x :: st) M) : P pc ls (st) M := by
  obtain ⟨p, l, e, R, s, m, args, below, meth, c, cells, slots, QQ, hx, hb, hml, hown, hts, hroom, hS0, hP, hret⟩ := hR
  exact (hP _ _ _ _).mpr fun H locs lsA h1 h2 h3 => lv_sipush hx hb hd hv ((hP _ _ _ _).mp k H locs lsA h1 h2 h3)
theorem r_lconst (hR : Bd G cc own nL d rt Q P) {n : Fin 2} (x : Int64) (hv : Int64.ofNat (n : Nat) = x) (hd : decode cc pc = .ok (.lconst n, 1)) (k : P (pc + 1) ls (.long x :: st) M) : P pc ls (st) M := by
  obtain ⟨p, l, e, R, s, m, args, below, meth, c, cells, slots, QQ, hx, hb, hml, hown, hts, hroom, hS0, hP, hret⟩ := hR
  exact (hP _ _ _ _).mpr fun H locs lsA h1 h2 h3 => lv_lconst hx hb hd hv ((hP _ _ _ _).mp k H locs lsA h1 h2 h3)
theorem r_ldc (hR : Bd G cc own nL d rt Q P) {i : Nat} {x : Int32} (hw : Cond.constant own i x ∈ GT) (hd : decode cc pc = .ok (.ldc i, 2)) (k : P (pc + 2) ls (.int x :: st) M) : P pc ls (st) M := by
  obtain ⟨p, l, e, R, s, m, args, below, meth, c, cells, slots, QQ, hx, hb, hml, hown, hts, hroom, hS0, hP, hret⟩ := hR
  exact (hP _ _ _ _).mpr fun H locs lsA h1 h2 h3 => lv_ldc hx hb hown (hts _ hw) hd ((hP _ _ _ _).mp k H locs lsA h1 h2 h3)
theorem r_ldc2 (hR : Bd G cc own nL d rt Q P) {i : Nat} {x : Int64} (hw : Cond.constantLong own i x ∈ GT) (hd : decode cc pc = .ok (.ldc2_w i, 3)) (k : P (pc + 3) ls (.long x :: st) M) : P pc ls (st) M := by
  obtain ⟨p, l, e, R, s, m, args, below, meth, c, cells, slots, QQ, hx, hb, hml, hown, hts, hroom, hS0, hP, hret⟩ := hR
  exact (hP _ _ _ _).mpr fun H locs lsA h1 h2 h3 => lv_ldc2 hx hb hown (hts _ hw) hd ((hP _ _ _ _).mp k H locs lsA h1 h2 h3)
theorem r_iadd (hR : Bd G cc own nL d rt Q P) {x y : Int32} (hd : decode cc pc = .ok (.iadd, 1)) (k : P (pc + 1) ls (.int (x + y) :: st) M) : P pc ls (.int y :: .int x :: st) M := by
  obtain ⟨p, l, e, R, s, m, args, below, meth, c, cells, slots, QQ, hx, hb, hml, hown, hts, hroom, hS0, hP, hret⟩ := hR
  exact (hP _ _ _ _).mpr fun H locs lsA h1 h2 h3 => lv_iadd hx hb hd ((hP _ _ _ _).mp k H locs lsA h1 h2 h3)
theorem r_isub (hR : Bd G cc own nL d rt Q P) {x y : Int32} (hd : decode cc pc = .ok (.isub, 1)) (k : P (pc + 1) ls (.int (x - y) :: st) M) : P pc ls (.int y :: .int x :: st) M := by
  obtain ⟨p, l, e, R, s, m, args, below, meth, c, cells, slots, QQ, hx, hb, hml, hown, hts, hroom, hS0, hP, hret⟩ := hR
  exact (hP _ _ _ _).mpr fun H locs lsA h1 h2 h3 => lv_isub hx hb hd ((hP _ _ _ _).mp k H locs lsA h1 h2 h3)
theorem r_imul (hR : Bd G cc own nL d rt Q P) {x y : Int32} (hd : decode cc pc = .ok (.imul, 1)) (k : P (pc + 1) ls (.int (x * y) :: st) M) : P pc ls (.int y :: .int x :: st) M := by
  obtain ⟨p, l, e, R, s, m, args, below, meth, c, cells, slots, QQ, hx, hb, hml, hown, hts, hroom, hS0, hP, hret⟩ := hR
  exact (hP _ _ _ _).mpr fun H locs lsA h1 h2 h3 => lv_imul hx hb hd ((hP _ _ _ _).mp k H locs lsA h1 h2 h3)
theorem r_iand (hR : Bd G cc own nL d rt Q P) {x y : Int32} (hd : decode cc pc = .ok (.iand, 1)) (k : P (pc + 1) ls (.int (x &&& y) :: st) M) : P pc ls (.int y :: .int x :: st) M := by
  obtain ⟨p, l, e, R, s, m, args, below, meth, c, cells, slots, QQ, hx, hb, hml, hown, hts, hroom, hS0, hP, hret⟩ := hR
  exact (hP _ _ _ _).mpr fun H locs lsA h1 h2 h3 => lv_iand hx hb hd ((hP _ _ _ _).mp k H locs lsA h1 h2 h3)
theorem r_ior (hR : Bd G cc own nL d rt Q P) {x y : Int32} (hd : decode cc pc = .ok (.ior, 1)) (k : P (pc + 1) ls (.int (x ||| y) :: st) M) : P pc ls (.int y :: .int x :: st) M := by
  obtain ⟨p, l, e, R, s, m, args, below, meth, c, cells, slots, QQ, hx, hb, hml, hown, hts, hroom, hS0, hP, hret⟩ := hR
  exact (hP _ _ _ _).mpr fun H locs lsA h1 h2 h3 => lv_ior hx hb hd ((hP _ _ _ _).mp k H locs lsA h1 h2 h3)
theorem r_ixor (hR : Bd G cc own nL d rt Q P) {x y : Int32} (hd : decode cc pc = .ok (.ixor, 1)) (k : P (pc + 1) ls (.int (x ^^^ y) :: st) M) : P pc ls (.int y :: .int x :: st) M := by
  obtain ⟨p, l, e, R, s, m, args, below, meth, c, cells, slots, QQ, hx, hb, hml, hown, hts, hroom, hS0, hP, hret⟩ := hR
  exact (hP _ _ _ _).mpr fun H locs lsA h1 h2 h3 => lv_ixor hx hb hd ((hP _ _ _ _).mp k H locs lsA h1 h2 h3)
theorem r_ishl (hR : Bd G cc own nL d rt Q P) {x y : Int32} (hd : decode cc pc = .ok (.ishl, 1)) (k : P (pc + 1) ls (.int (x <<< (y &&& 31)) :: st) M) : P pc ls (.int y :: .int x :: st) M := by
  obtain ⟨p, l, e, R, s, m, args, below, meth, c, cells, slots, QQ, hx, hb, hml, hown, hts, hroom, hS0, hP, hret⟩ := hR
  exact (hP _ _ _ _).mpr fun H locs lsA h1 h2 h3 => lv_ishl hx hb hd ((hP _ _ _ _).mp k H locs lsA h1 h2 h3)
theorem r_ishr (hR : Bd G cc own nL d rt Q P) {x y : Int32} (hd : decode cc pc = .ok (.ishr, 1)) (k : P (pc + 1) ls (.int (x >>> (y &&& 31)) :: st) M) : P pc ls (.int y :: .int x :: st) M := by
  obtain ⟨p, l, e, R, s, m, args, below, meth, c, cells, slots, QQ, hx, hb, hml, hown, hts, hroom, hS0, hP, hret⟩ := hR
  exact (hP _ _ _ _).mpr fun H locs lsA h1 h2 h3 => lv_ishr hx hb hd ((hP _ _ _ _).mp k H locs lsA h1 h2 h3)
theorem r_iushr (hR : Bd G cc own nL d rt Q P) {x y : Int32} (hd : decode cc pc = .ok (.iushr, 1)) (k : P (pc + 1) ls (.int ((x.toUInt32 >>> (y.toUInt32 &&& Int32.toUInt32 31)).toInt32) :: st) M) : P pc ls (.int y :: .int x :: st) M := by
  obtain ⟨p, l, e, R, s, m, args, below, meth, c, cells, slots, QQ, hx, hb, hml, hown, hts, hroom, hS0, hP, hret⟩ := hR
  exact (hP _ _ _ _).mpr fun H locs lsA h1 h2 h3 => lv_iushr hx hb hd rfl ((hP _ _ _ _).mp k H locs lsA h1 h2 h3)
theorem r_ineg (hR : Bd G cc own nL d rt Q P) {x : Int32} (hd : decode cc pc = .ok (.ineg, 1)) (k : P (pc + 1) ls (.int (-x) :: st) M) : P pc ls (.int x :: st) M := by
  obtain ⟨p, l, e, R, s, m, args, below, meth, c, cells, slots, QQ, hx, hb, hml, hown, hts, hroom, hS0, hP, hret⟩ := hR
  exact (hP _ _ _ _).mpr fun H locs lsA h1 h2 h3 => lv_ineg hx hb hd ((hP _ _ _ _).mp k H locs lsA h1 h2 h3)
theorem r_idiv (hR : Bd G cc own nL d rt Q P) {x y : Int32} (hne : ¬ y = 0) (hd : decode cc pc = .ok (.idiv, 1)) (k : P (pc + 1) ls (.int (x / y) :: st) M) : P pc ls (.int y :: .int x :: st) M := by
  obtain ⟨p, l, e, R, s, m, args, below, meth, c, cells, slots, QQ, hx, hb, hml, hown, hts, hroom, hS0, hP, hret⟩ := hR
  exact (hP _ _ _ _).mpr fun H locs lsA h1 h2 h3 => lv_idiv hx hb hd hne ((hP _ _ _ _).mp k H locs lsA h1 h2 h3)
theorem r_irem (hR : Bd G cc own nL d rt Q P) {x y : Int32} (hne : ¬ y = 0) (hd : decode cc pc = .ok (.irem, 1)) (k : P (pc + 1) ls (.int (x - x / y * y) :: st) M) : P pc ls (.int y :: .int x :: st) M := by
  obtain ⟨p, l, e, R, s, m, args, below, meth, c, cells, slots, QQ, hx, hb, hml, hown, hts, hroom, hS0, hP, hret⟩ := hR
  exact (hP _ _ _ _).mpr fun H locs lsA h1 h2 h3 => lv_irem hx hb hd hne ((hP _ _ _ _).mp k H locs lsA h1 h2 h3)
theorem r_land (hR : Bd G cc own nL d rt Q P) {x y : Int64} (hd : decode cc pc = .ok (.land, 1)) (k : P (pc + 1) ls (.long (x &&& y) :: st) M) : P pc ls (.long y :: .long x :: st) M := by
  obtain ⟨p, l, e, R, s, m, args, below, meth, c, cells, slots, QQ, hx, hb, hml, hown, hts, hroom, hS0, hP, hret⟩ := hR
  exact (hP _ _ _ _).mpr fun H locs lsA h1 h2 h3 => lv_land hx hb hd ((hP _ _ _ _).mp k H locs lsA h1 h2 h3)
theorem r_lor (hR : Bd G cc own nL d rt Q P) {x y : Int64} (hd : decode cc pc = .ok (.lor, 1)) (k : P (pc + 1) ls (.long (x ||| y) :: st) M) : P pc ls (.long y :: .long x :: st) M := by
  obtain ⟨p, l, e, R, s, m, args, below, meth, c, cells, slots, QQ, hx, hb, hml, hown, hts, hroom, hS0, hP, hret⟩ := hR
  exact (hP _ _ _ _).mpr fun H locs lsA h1 h2 h3 => lv_lor hx hb hd ((hP _ _ _ _).mp k H locs lsA h1 h2 h3)
theorem r_i2l (hR : Bd G cc own nL d rt Q P) {x : Int32} (hd : decode cc pc = .ok (.i2l, 1)) (k : P (pc + 1) ls (.long x.toInt64 :: st) M) : P pc ls (.int x :: st) M := by
  obtain ⟨p, l, e, R, s, m, args, below, meth, c, cells, slots, QQ, hx, hb, hml, hown, hts, hroom, hS0, hP, hret⟩ := hR
  exact (hP _ _ _ _).mpr fun H locs lsA h1 h2 h3 => lv_i2l hx hb hd rfl ((hP _ _ _ _).mp k H locs lsA h1 h2 h3)
theorem r_l2i (hR : Bd G cc own nL d rt Q P) {x : Int64} (hd : decode cc pc = .ok (.l2i, 1)) (k : P (pc + 1) ls (.int x.toInt32 :: st) M) : P pc ls (.long x :: st) M := by
  obtain ⟨p, l, e, R, s, m, args, below, meth, c, cells, slots, QQ, hx, hb, hml, hown, hts, hroom, hS0, hP, hret⟩ := hR
  exact (hP _ _ _ _).mpr fun H locs lsA h1 h2 h3 => lv_l2i hx hb hd rfl ((hP _ _ _ _).mp k H locs lsA h1 h2 h3)
theorem r_i2b (hR : Bd G cc own nL d rt Q P) {x : Int32} (hd : decode cc pc = .ok (.i2b, 1)) (k : P (pc + 1) ls (.int x.toInt8.toInt32 :: st) M) : P pc ls (.int x :: st) M := by
  obtain ⟨p, l, e, R, s, m, args, below, meth, c, cells, slots, QQ, hx, hb, hml, hown, hts, hroom, hS0, hP, hret⟩ := hR
  exact (hP _ _ _ _).mpr fun H locs lsA h1 h2 h3 => lv_i2b hx hb hd rfl ((hP _ _ _ _).mp k H locs lsA h1 h2 h3)
theorem r_i2s (hR : Bd G cc own nL d rt Q P) {x : Int32} (hd : decode cc pc = .ok (.i2s, 1)) (k : P (pc + 1) ls (.int x.toInt16.toInt32 :: st) M) : P pc ls (.int x :: st) M := by
  obtain ⟨p, l, e, R, s, m, args, below, meth, c, cells, slots, QQ, hx, hb, hml, hown, hts, hroom, hS0, hP, hret⟩ := hR
  exact (hP _ _ _ _).mpr fun H locs lsA h1 h2 h3 => lv_i2s hx hb hd rfl ((hP _ _ _ _).mp k H locs lsA h1 h2 h3)
theorem r_i2c (hR : Bd G cc own nL d rt Q P) {x : Int32} (hd : decode cc pc = .ok (.i2c, 1)) (k : P (pc + 1) ls (.int (x.toUInt32 % 65536).toInt32 :: st) M) : P pc ls (.int x :: st) M := by
  obtain ⟨p, l, e, R, s, m, args, below, meth, c, cells, slots, QQ, hx, hb, hml, hown, hts, hroom, hS0, hP, hret⟩ := hR
  exact (hP _ _ _ _).mpr fun H locs lsA h1 h2 h3 => lv_i2c hx hb hd rfl ((hP _ _ _ _).mp k H locs lsA h1 h2 h3)
theorem r_lshl (hR : Bd G cc own nL d rt Q P) {x : Int64} {y : Int32} (hd : decode cc pc = .ok (.lshl, 1)) (k : P (pc + 1) ls (.long (x <<< (y.toInt64 &&& 63)) :: st) M) : P pc ls (.int y :: .long x :: st) M := by
  obtain ⟨p, l, e, R, s, m, args, below, meth, c, cells, slots, QQ, hx, hb, hml, hown, hts, hroom, hS0, hP, hret⟩ := hR
  exact (hP _ _ _ _).mpr fun H locs lsA h1 h2 h3 => lv_lshl hx hb hd rfl ((hP _ _ _ _).mp k H locs lsA h1 h2 h3)
theorem r_lcmp (hR : Bd G cc own nL d rt Q P) {x y : Int64} (hd : decode cc pc = .ok (.lcmp, 1)) (k : P (pc + 1) ls (.int (lg_cmp x y) :: st) M) : P pc ls (.long y :: .long x :: st) M := by
  obtain ⟨p, l, e, R, s, m, args, below, meth, c, cells, slots, QQ, hx, hb, hml, hown, hts, hroom, hS0, hP, hret⟩ := hR
  exact (hP _ _ _ _).mpr fun H locs lsA h1 h2 h3 => W.lcmp hx hb hd ((hP _ _ _ _).mp k H locs lsA h1 h2 h3)
theorem r_dup (hR : Bd G cc own nL d rt Q P) {a : Value} (ha : a.category = 1) (hd : decode cc pc = .ok (.dup, 1)) (k : P (pc + 1) ls (a :: a :: st) M) : P pc ls (a :: st) M := by
  obtain ⟨p, l, e, R, s, m, args, below, meth, c, cells, slots, QQ, hx, hb, hml, hown, hts, hroom, hS0, hP, hret⟩ := hR
  exact (hP _ _ _ _).mpr fun H locs lsA h1 h2 h3 => lv_dup hx hb hd ha ((hP _ _ _ _).mp k H locs lsA h1 h2 h3)
theorem r_pop (hR : Bd G cc own nL d rt Q P) {a : Value} (ha : a.category = 1) (hd : decode cc pc = .ok (.pop, 1)) (k : P (pc + 1) ls (st) M) : P pc ls (a :: st) M := by
  obtain ⟨p, l, e, R, s, m, args, below, meth, c, cells, slots, QQ, hx, hb, hml, hown, hts, hroom, hS0, hP, hret⟩ := hR
  exact (hP _ _ _ _).mpr fun H locs lsA h1 h2 h3 => lv_pop hx hb hd ha ((hP _ _ _ _).mp k H locs lsA h1 h2 h3)
theorem r_dup2 (hR : Bd G cc own nL d rt Q P) {a b : Value} (ha : a.category = 1) (hb2 : b.category = 1) (hd : decode cc pc = .ok (.dup2, 1)) (k : P (pc + 1) ls (a :: b :: a :: b :: st) M) : P pc ls (a :: b :: st) M := by
  obtain ⟨p, l, e, R, s, m, args, below, meth, c, cells, slots, QQ, hx, hb, hml, hown, hts, hroom, hS0, hP, hret⟩ := hR
  exact (hP _ _ _ _).mpr fun H locs lsA h1 h2 h3 => lv_dup2_11 hx hb hd ha hb2 ((hP _ _ _ _).mp k H locs lsA h1 h2 h3)
theorem r_if_eq (hR : Bd G cc own nL d rt Q P) {x : Int32} {off : Int} (tgt : Nat) (hd : decode cc pc = .ok (.ifCond .eq off, 3)) (ht : (pc : Int) + off = (tgt : Int)) (kt : x = nI 0 → P tgt ls st M) (kf : ¬ x = nI 0 → P (pc + 3) ls st M) : P pc ls (.int x :: st) M := by
  obtain ⟨p, l, e, R, s, m, args, below, meth, c, cells, slots, QQ, hx, hb, hml, hown, hts, hroom, hS0, hP, hret⟩ := hR
  exact (hP _ _ _ _).mpr fun H locs lsA h1 h2 h3 => lv_if_eq hx hb hd ht (fun q => (hP _ _ _ _).mp (kt q) H locs lsA h1 h2 h3) (fun q => (hP _ _ _ _).mp (kf q) H locs lsA h1 h2 h3)
theorem r_if_lt (hR : Bd G cc own nL d rt Q P) {x : Int32} {off : Int} (tgt : Nat) (hd : decode cc pc = .ok (.ifCond .lt off, 3)) (ht : (pc : Int) + off = (tgt : Int)) (kt : x < nI 0 → P tgt ls st M) (kf : ¬ x < nI 0 → P (pc + 3) ls st M) : P pc ls (.int x :: st) M := by
  obtain ⟨p, l, e, R, s, m, args, below, meth, c, cells, slots, QQ, hx, hb, hml, hown, hts, hroom, hS0, hP, hret⟩ := hR
  exact (hP _ _ _ _).mpr fun H locs lsA h1 h2 h3 => lv_if_lt hx hb hd ht (fun q => (hP _ _ _ _).mp (kt q) H locs lsA h1 h2 h3) (fun q => (hP _ _ _ _).mp (kf q) H locs lsA h1 h2 h3)
theorem r_if_ge (hR : Bd G cc own nL d rt Q P) {x : Int32} {off : Int} (tgt : Nat) (hd : decode cc pc = .ok (.ifCond .ge off, 3)) (ht : (pc : Int) + off = (tgt : Int)) (kt : nI 0 ≤ x → P tgt ls st M) (kf : ¬ nI 0 ≤ x → P (pc + 3) ls st M) : P pc ls (.int x :: st) M := by
  obtain ⟨p, l, e, R, s, m, args, below, meth, c, cells, slots, QQ, hx, hb, hml, hown, hts, hroom, hS0, hP, hret⟩ := hR
  exact (hP _ _ _ _).mpr fun H locs lsA h1 h2 h3 => lv_if_ge hx hb hd ht (fun q => (hP _ _ _ _).mp (kt q) H locs lsA h1 h2 h3) (fun q => (hP _ _ _ _).mp (kf q) H locs lsA h1 h2 h3)
theorem r_if_gt (hR : Bd G cc own nL d rt Q P) {x : Int32} {off : Int} (tgt : Nat) (hd : decode cc pc = .ok (.ifCond .gt off, 3)) (ht : (pc : Int) + off = (tgt : Int)) (kt : nI 0 < x → P tgt ls st M) (kf : ¬ nI 0 < x → P (pc + 3) ls st M) : P pc ls (.int x :: st) M := by
  obtain ⟨p, l, e, R, s, m, args, below, meth, c, cells, slots, QQ, hx, hb, hml, hown, hts, hroom, hS0, hP, hret⟩ := hR
  exact (hP _ _ _ _).mpr fun H locs lsA h1 h2 h3 => lv_if_gt hx hb hd ht (fun q => (hP _ _ _ _).mp (kt q) H locs lsA h1 h2 h3) (fun q => (hP _ _ _ _).mp (kf q) H locs lsA h1 h2 h3)
theorem r_if_le (hR : Bd G cc own nL d rt Q P) {x : Int32} {off : Int} (tgt : Nat) (hd : decode cc pc = .ok (.ifCond .le off, 3)) (ht : (pc : Int) + off = (tgt : Int)) (kt : x ≤ nI 0 → P tgt ls st M) (kf : ¬ x ≤ nI 0 → P (pc + 3) ls st M) : P pc ls (.int x :: st) M := by
  obtain ⟨p, l, e, R, s, m, args, below, meth, c, cells, slots, QQ, hx, hb, hml, hown, hts, hroom, hS0, hP, hret⟩ := hR
  exact (hP _ _ _ _).mpr fun H locs lsA h1 h2 h3 => lv_if_le hx hb hd ht (fun q => (hP _ _ _ _).mp (kt q) H locs lsA h1 h2 h3) (fun q => (hP _ _ _ _).mp (kf q) H locs lsA h1 h2 h3)
theorem r_if_ne (hR : Bd G cc own nL d rt Q P) {x : Int32} {off : Int} (tgt : Nat) (hd : decode cc pc = .ok (.ifCond .ne off, 3)) (ht : (pc : Int) + off = (tgt : Int)) (kt : ¬ x = nI 0 → P tgt ls st M) (kf : x = nI 0 → P (pc + 3) ls st M) : P pc ls (.int x :: st) M := by
  obtain ⟨p, l, e, R, s, m, args, below, meth, c, cells, slots, QQ, hx, hb, hml, hown, hts, hroom, hS0, hP, hret⟩ := hR
  exact (hP _ _ _ _).mpr fun H locs lsA h1 h2 h3 => lv_if_ne hx hb hd ht (fun q => (hP _ _ _ _).mp (kt q) H locs lsA h1 h2 h3) (fun q => (hP _ _ _ _).mp (kf q) H locs lsA h1 h2 h3)
theorem r_icmp_eq (hR : Bd G cc own nL d rt Q P) {x y : Int32} {off : Int} (tgt : Nat) (hd : decode cc pc = .ok (.if_icmp .eq off, 3)) (ht : (pc : Int) + off = (tgt : Int)) (kt : x = y → P tgt ls st M) (kf : ¬ x = y → P (pc + 3) ls st M) : P pc ls (.int y :: .int x :: st) M := by
  obtain ⟨p, l, e, R, s, m, args, below, meth, c, cells, slots, QQ, hx, hb, hml, hown, hts, hroom, hS0, hP, hret⟩ := hR
  exact (hP _ _ _ _).mpr fun H locs lsA h1 h2 h3 => lv_icmp_eq hx hb hd ht (fun q => (hP _ _ _ _).mp (kt q) H locs lsA h1 h2 h3) (fun q => (hP _ _ _ _).mp (kf q) H locs lsA h1 h2 h3)
theorem r_icmp_lt (hR : Bd G cc own nL d rt Q P) {x y : Int32} {off : Int} (tgt : Nat) (hd : decode cc pc = .ok (.if_icmp .lt off, 3)) (ht : (pc : Int) + off = (tgt : Int)) (kt : x < y → P tgt ls st M) (kf : ¬ x < y → P (pc + 3) ls st M) : P pc ls (.int y :: .int x :: st) M := by
  obtain ⟨p, l, e, R, s, m, args, below, meth, c, cells, slots, QQ, hx, hb, hml, hown, hts, hroom, hS0, hP, hret⟩ := hR
  exact (hP _ _ _ _).mpr fun H locs lsA h1 h2 h3 => lv_icmp_lt hx hb hd ht (fun q => (hP _ _ _ _).mp (kt q) H locs lsA h1 h2 h3) (fun q => (hP _ _ _ _).mp (kf q) H locs lsA h1 h2 h3)
theorem r_icmp_ge (hR : Bd G cc own nL d rt Q P) {x y : Int32} {off : Int} (tgt : Nat) (hd : decode cc pc = .ok (.if_icmp .ge off, 3)) (ht : (pc : Int) + off = (tgt : Int)) (kt : y ≤ x → P tgt ls st M) (kf : ¬ y ≤ x → P (pc + 3) ls st M) : P pc ls (.int y :: .int x :: st) M := by
  obtain ⟨p, l, e, R, s, m, args, below, meth, c, cells, slots, QQ, hx, hb, hml, hown, hts, hroom, hS0, hP, hret⟩ := hR
  exact (hP _ _ _ _).mpr fun H locs lsA h1 h2 h3 => lv_icmp_ge hx hb hd ht (fun q => (hP _ _ _ _).mp (kt q) H locs lsA h1 h2 h3) (fun q => (hP _ _ _ _).mp (kf q) H locs lsA h1 h2 h3)
theorem r_icmp_gt (hR : Bd G cc own nL d rt Q P) {x y : Int32} {off : Int} (tgt : Nat) (hd : decode cc pc = .ok (.if_icmp .gt off, 3)) (ht : (pc : Int) + off = (tgt : Int)) (kt : y < x → P tgt ls st M) (kf : ¬ y < x → P (pc + 3) ls st M) : P pc ls (.int y :: .int x :: st) M := by
  obtain ⟨p, l, e, R, s, m, args, below, meth, c, cells, slots, QQ, hx, hb, hml, hown, hts, hroom, hS0, hP, hret⟩ := hR
  exact (hP _ _ _ _).mpr fun H locs lsA h1 h2 h3 => lv_icmp_gt hx hb hd ht (fun q => (hP _ _ _ _).mp (kt q) H locs lsA h1 h2 h3) (fun q => (hP _ _ _ _).mp (kf q) H locs lsA h1 h2 h3)
theorem r_icmp_le (hR : Bd G cc own nL d rt Q P) {x y : Int32} {off : Int} (tgt : Nat) (hd : decode cc pc = .ok (.if_icmp .le off, 3)) (ht : (pc : Int) + off = (tgt : Int)) (kt : x ≤ y → P tgt ls st M) (kf : ¬ x ≤ y → P (pc + 3) ls st M) : P pc ls (.int y :: .int x :: st) M := by
  obtain ⟨p, l, e, R, s, m, args, below, meth, c, cells, slots, QQ, hx, hb, hml, hown, hts, hroom, hS0, hP, hret⟩ := hR
  exact (hP _ _ _ _).mpr fun H locs lsA h1 h2 h3 => lv_icmp_le hx hb hd ht (fun q => (hP _ _ _ _).mp (kt q) H locs lsA h1 h2 h3) (fun q => (hP _ _ _ _).mp (kf q) H locs lsA h1 h2 h3)
theorem r_icmp_ne (hR : Bd G cc own nL d rt Q P) {x y : Int32} {off : Int} (tgt : Nat) (hd : decode cc pc = .ok (.if_icmp .ne off, 3)) (ht : (pc : Int) + off = (tgt : Int)) (kt : ¬ x = y → P tgt ls st M) (kf : x = y → P (pc + 3) ls st M) : P pc ls (.int y :: .int x :: st) M := by
  obtain ⟨p, l, e, R, s, m, args, below, meth, c, cells, slots, QQ, hx, hb, hml, hown, hts, hroom, hS0, hP, hret⟩ := hR
  exact (hP _ _ _ _).mpr fun H locs lsA h1 h2 h3 => lv_icmp_ne hx hb hd ht (fun q => (hP _ _ _ _).mp (kt q) H locs lsA h1 h2 h3) (fun q => (hP _ _ _ _).mp (kf q) H locs lsA h1 h2 h3)
theorem r_goto (hR : Bd G cc own nL d rt Q P) {off : Int} (tgt : Nat) (hd : decode cc pc = .ok (.goto off, 3)) (ht : (pc : Int) + off = (tgt : Int)) (k : P tgt ls st M) : P pc ls st M := by
  obtain ⟨p, l, e, R, s, m, args, below, meth, c, cells, slots, QQ, hx, hb, hml, hown, hts, hroom, hS0, hP, hret⟩ := hR
  exact (hP _ _ _ _).mpr fun H locs lsA h1 h2 h3 => lv_goto hx hb hd ht ((hP _ _ _ _).mp k H locs lsA h1 h2 h3)
theorem r_swOut (hR : Bd G cc own nL d rt Q P) {dflt lo hi : Int} {offs : Array Int} {len : Nat} {x : Int32} (tgt : Nat) (hd : decode cc pc = .ok (.tableswitch dflt lo hi offs, len)) (h : x.toInt < lo ∨ hi < x.toInt) (ht : (pc : Int) + dflt = (tgt : Int)) (k : P tgt ls st M) : P pc ls (.int x :: st) M := by
  obtain ⟨p, l, e, R, s, m, args, below, meth, c, cells, slots, QQ, hx, hb, hml, hown, hts, hroom, hS0, hP, hret⟩ := hR
  exact (hP _ _ _ _).mpr fun H locs lsA h1 h2 h3 => lv_tableOut hx hb hd h ht ((hP _ _ _ _).mp k H locs lsA h1 h2 h3)
theorem r_swIn (hR : Bd G cc own nL d rt Q P) {dflt lo hi : Int} {offs : Array Int} {len : Nat} {x : Int32} {off : Int} (tgt : Nat) (hd : decode cc pc = .ok (.tableswitch dflt lo hi offs, len)) (h1 : ¬ x.toInt < lo) (h2 : ¬ hi < x.toInt) (ho : offs[(x.toInt - lo).toNat]? = some off) (ht : (pc : Int) + off = (tgt : Int)) (k : P tgt ls st M) : P pc ls (.int x :: st) M := by
  obtain ⟨p, l, e, R, s, m, args, below, meth, c, cells, slots, QQ, hx, hb, hml, hown, hts, hroom, hS0, hP, hret⟩ := hR
  exact (hP _ _ _ _).mpr fun H locs lsA g1 g2 g3 => lv_tableIn hx hb hd h1 h2 ho ht ((hP _ _ _ _).mp k H locs lsA g1 g2 g3)
theorem g_iload_n (hR : Bd G cc own nL d rt Q P) {kk : Fin 4} {i : Nat} {x : Int32} (hi : (kk : Nat) = i) (hl : ls[i]? = some (some (.int x))) (hd : decode cc pc = .ok (.iload_n kk, 1)) (k : P (pc + 1) ls (.int x :: st) M) : P pc ls st M := by
  obtain ⟨p, l, e, R, s, m, args, below, meth, c, cells, slots, QQ, hx, hb, hml, hown, hts, hroom, hS0, hP, hret⟩ := hR
  exact (hP _ _ _ _).mpr fun H locs lsA h1 h2 h3 => lv_iload_n hx hb hd hi (h1.at hl) ((hP _ _ _ _).mp k H locs lsA h1 h2 h3)
theorem g_iload (hR : Bd G cc own nL d rt Q P) {i : Nat} {x : Int32} (hl : ls[i]? = some (some (.int x))) (hd : decode cc pc = .ok (.iload i, 2)) (k : P (pc + 2) ls (.int x :: st) M) : P pc ls st M := by
  obtain ⟨p, l, e, R, s, m, args, below, meth, c, cells, slots, QQ, hx, hb, hml, hown, hts, hroom, hS0, hP, hret⟩ := hR
  exact (hP _ _ _ _).mpr fun H locs lsA h1 h2 h3 => lv_iload hx hb hd (h1.at hl) ((hP _ _ _ _).mp k H locs lsA h1 h2 h3)
theorem g_lload_n (hR : Bd G cc own nL d rt Q P) {kk : Fin 4} {i : Nat} {x : Int64} (hi : (kk : Nat) = i) (hl : ls[i]? = some (some (.long x))) (hd : decode cc pc = .ok (.lload_n kk, 1)) (k : P (pc + 1) ls (.long x :: st) M) : P pc ls st M := by
  obtain ⟨p, l, e, R, s, m, args, below, meth, c, cells, slots, QQ, hx, hb, hml, hown, hts, hroom, hS0, hP, hret⟩ := hR
  exact (hP _ _ _ _).mpr fun H locs lsA h1 h2 h3 => lv_lload_n hx hb hd hi (h1.at hl) ((hP _ _ _ _).mp k H locs lsA h1 h2 h3)
theorem g_lload (hR : Bd G cc own nL d rt Q P) {i : Nat} {x : Int64} (hl : ls[i]? = some (some (.long x))) (hd : decode cc pc = .ok (.lload i, 2)) (k : P (pc + 2) ls (.long x :: st) M) : P pc ls st M := by
  obtain ⟨p, l, e, R, s, m, args, below, meth, c, cells, slots, QQ, hx, hb, hml, hown, hts, hroom, hS0, hP, hret⟩ := hR
  exact (hP _ _ _ _).mpr fun H locs lsA h1 h2 h3 => lv_lload hx hb hd (h1.at hl) ((hP _ _ _ _).mp k H locs lsA h1 h2 h3)
theorem g_aload_n (hR : Bd G cc own nL d rt Q P) {kk : Fin 4} {i : Nat} {x : Nat} (hi : (kk : Nat) = i) (hl : ls[i]? = some (some (.ref x))) (hd : decode cc pc = .ok (.aload_n kk, 1)) (k : P (pc + 1) ls (.ref x :: st) M) : P pc ls st M := by
  obtain ⟨p, l, e, R, s, m, args, below, meth, c, cells, slots, QQ, hx, hb, hml, hown, hts, hroom, hS0, hP, hret⟩ := hR
  exact (hP _ _ _ _).mpr fun H locs lsA h1 h2 h3 => lv_aload_n hx hb hd hi (h1.at hl) ((hP _ _ _ _).mp k H locs lsA h1 h2 h3)
theorem g_aload (hR : Bd G cc own nL d rt Q P) {i : Nat} {x : Nat} (hl : ls[i]? = some (some (.ref x))) (hd : decode cc pc = .ok (.aload i, 2)) (k : P (pc + 2) ls (.ref x :: st) M) : P pc ls st M := by
  obtain ⟨p, l, e, R, s, m, args, below, meth, c, cells, slots, QQ, hx, hb, hml, hown, hts, hroom, hS0, hP, hret⟩ := hR
  exact (hP _ _ _ _).mpr fun H locs lsA h1 h2 h3 => lv_aload hx hb hd (h1.at hl) ((hP _ _ _ _).mp k H locs lsA h1 h2 h3)
theorem g_istore_n (hR : Bd G cc own nL d rt Q P) {kk : Fin 4} {i : Nat} {x : Int32} {ls' : List (Option Value)} (hi : (kk : Nat) = i) (hn : i < ls.length) (hok : okSt ls i) (hl : ls.set i (some (.int x)) = ls') (hd : decode cc pc = .ok (.istore_n kk, 1)) (k : P (pc + 1) ls' st M) : P pc ls (.int x :: st) M := by
  obtain ⟨p, l, e, R, s, m, args, below, meth, c, cells, slots, QQ, hx, hb, hml, hown, hts, hroom, hS0, hP, hret⟩ := hR
  refine (hP _ _ _ _).mpr fun H locs lsA h1 h2 h3 => ?_
  obtain ⟨hlen, lv, q1, q2⟩ := h1
  exact lv_istore_n hx hb hd hi q1 (by omega) rfl (fun lsB hB => (hP _ _ _ _).mp k H locs lsB ⟨by rw [← hl]; simp [hlen], _, hB, by rw [← hl]; exact hasL.f1 q1 q2 (by omega) hok⟩ h2 h3)
theorem g_istore (hR : Bd G cc own nL d rt Q P) {i : Nat} {x : Int32} {ls' : List (Option Value)} (hn : i < ls.length) (hok : okSt ls i) (hl : ls.set i (some (.int x)) = ls') (hd : decode cc pc = .ok (.istore i, 2)) (k : P (pc + 2) ls' st M) : P pc ls (.int x :: st) M := by
  obtain ⟨p, l, e, R, s, m, args, below, meth, c, cells, slots, QQ, hx, hb, hml, hown, hts, hroom, hS0, hP, hret⟩ := hR
  refine (hP _ _ _ _).mpr fun H locs lsA h1 h2 h3 => ?_
  obtain ⟨hlen, lv, q1, q2⟩ := h1
  exact lv_istore hx hb hd q1 (by omega) rfl (fun lsB hB => (hP _ _ _ _).mp k H locs lsB ⟨by rw [← hl]; simp [hlen], _, hB, by rw [← hl]; exact hasL.f1 q1 q2 (by omega) hok⟩ h2 h3)
theorem g_lstore_n (hR : Bd G cc own nL d rt Q P) {kk : Fin 4} {i : Nat} {x : Int64} {ls' : List (Option Value)} (hi : (kk : Nat) = i) (hn : i + 1 < ls.length) (hok : okSt ls i) (hl : (ls.set i (some (.long x))).set (i + 1) none = ls') (hd : decode cc pc = .ok (.lstore_n kk, 1)) (k : P (pc + 1) ls' st M) : P pc ls (.long x :: st) M := by
  obtain ⟨p, l, e, R, s, m, args, below, meth, c, cells, slots, QQ, hx, hb, hml, hown, hts, hroom, hS0, hP, hret⟩ := hR
  refine (hP _ _ _ _).mpr fun H locs lsA h1 h2 h3 => ?_
  obtain ⟨hlen, lv, q1, q2⟩ := h1
  exact lv_lstore_n hx hb hd hi q1 (by omega) rfl (fun lsB hB => (hP _ _ _ _).mp k H locs lsB ⟨by rw [← hl]; simp [hlen], _, hB, by rw [← hl]; exact hasL.f2 q1 q2 (by omega) hok⟩ h2 h3)
theorem g_lstore (hR : Bd G cc own nL d rt Q P) {i : Nat} {x : Int64} {ls' : List (Option Value)} (hn : i + 1 < ls.length) (hok : okSt ls i) (hl : (ls.set i (some (.long x))).set (i + 1) none = ls') (hd : decode cc pc = .ok (.lstore i, 2)) (k : P (pc + 2) ls' st M) : P pc ls (.long x :: st) M := by
  obtain ⟨p, l, e, R, s, m, args, below, meth, c, cells, slots, QQ, hx, hb, hml, hown, hts, hroom, hS0, hP, hret⟩ := hR
  refine (hP _ _ _ _).mpr fun H locs lsA h1 h2 h3 => ?_
  obtain ⟨hlen, lv, q1, q2⟩ := h1
  exact lv_lstore hx hb hd q1 (by omega) rfl (fun lsB hB => (hP _ _ _ _).mp k H locs lsB ⟨by rw [← hl]; simp [hlen], _, hB, by rw [← hl]; exact hasL.f2 q1 q2 (by omega) hok⟩ h2 h3)
theorem g_astore_n (hR : Bd G cc own nL d rt Q P) {kk : Fin 4} {i : Nat} {x : Nat} {ls' : List (Option Value)} (hi : (kk : Nat) = i) (hn : i < ls.length) (hok : okSt ls i) (hl : ls.set i (some (.ref x)) = ls') (hd : decode cc pc = .ok (.astore_n kk, 1)) (k : P (pc + 1) ls' st M) : P pc ls (.ref x :: st) M := by
  obtain ⟨p, l, e, R, s, m, args, below, meth, c, cells, slots, QQ, hx, hb, hml, hown, hts, hroom, hS0, hP, hret⟩ := hR
  refine (hP _ _ _ _).mpr fun H locs lsA h1 h2 h3 => ?_
  obtain ⟨hlen, lv, q1, q2⟩ := h1
  exact lv_astore_n hx hb hd hi q1 (by omega) rfl (fun lsB hB => (hP _ _ _ _).mp k H locs lsB ⟨by rw [← hl]; simp [hlen], _, hB, by rw [← hl]; exact hasL.f1 q1 q2 (by omega) hok⟩ h2 h3)
theorem g_astore (hR : Bd G cc own nL d rt Q P) {i : Nat} {x : Nat} {ls' : List (Option Value)} (hn : i < ls.length) (hok : okSt ls i) (hl : ls.set i (some (.ref x)) = ls') (hd : decode cc pc = .ok (.astore i, 2)) (k : P (pc + 2) ls' st M) : P pc ls (.ref x :: st) M := by
  obtain ⟨p, l, e, R, s, m, args, below, meth, c, cells, slots, QQ, hx, hb, hml, hown, hts, hroom, hS0, hP, hret⟩ := hR
  refine (hP _ _ _ _).mpr fun H locs lsA h1 h2 h3 => ?_
  obtain ⟨hlen, lv, q1, q2⟩ := h1
  exact lv_astore hx hb hd q1 (by omega) rfl (fun lsB hB => (hP _ _ _ _).mp k H locs lsB ⟨by rw [← hl]; simp [hlen], _, hB, by rw [← hl]; exact hasL.f1 q1 q2 (by omega) hok⟩ h2 h3)
theorem g_iinc (hR : Bd G cc own nL d rt Q P) {i : Nat} {n : Int} {x : Int32} (v : Int32) {ls' : List (Option Value)} (hn : i < ls.length) (hok : okSt ls i) (hx0 : ls[i]? = some (some (.int x))) (hv : Int32.ofInt n = v) (hl : ls.set i (some (.int (x + v))) = ls') (hd : decode cc pc = .ok (.iinc i n, 3)) (k : P (pc + 3) ls' st M) : P pc ls st M := by
  obtain ⟨p, l, e, R, s, m, args, below, meth, c, cells, slots, QQ, hx, hb, hml, hown, hts, hroom, hS0, hP, hret⟩ := hR
  refine (hP _ _ _ _).mpr fun H locs lsA h1 h2 h3 => ?_
  obtain ⟨hlen, lv, q1, q2⟩ := h1
  obtain ⟨kk, hkk⟩ := List.getElem?_of_mem (q2 i _ hx0)
  exact lv_iinc hx hb hd q1 hkk (by rw [hv]) (by omega) rfl (fun lsB hB => (hP _ _ _ _).mp k H locs lsB ⟨by rw [← hl]; simp [hlen], _, hB, by rw [← hl]; exact hasL.f1 q1 q2 (by omega) hok⟩ h2 h3)
theorem r_iload0 (hR : Bd G cc own nL d rt Q P) {r : List (Option Value)} {x : Int32} (hd : decode cc pc = .ok (.iload_n 0, 1)) (k : P (pc + 1) (some (.int x) :: r) (.int x :: st) M) : P pc (some (.int x) :: r) st M := g_iload_n hR (kk := 0) (i := 0) rfl rfl hd k
theorem r_istore0 (hR : Bd G cc own nL d rt Q P) {b0 : Option Value} {r : List (Option Value)} {x : Int32} (hd : decode cc pc = .ok (.istore_n 0, 1)) (k : P (pc + 1) (some (.int x) :: r) st M) : P pc (b0 :: r) (.int x :: st) M := by
  refine g_istore_n hR (kk := 0) (i := 0) rfl (by simp) (okSt_of0 ) rfl hd k
theorem r_lload0 (hR : Bd G cc own nL d rt Q P) {r : List (Option Value)} {x : Int64} (hd : decode cc pc = .ok (.lload_n 0, 1)) (k : P (pc + 1) (some (.long x) :: r) (.long x :: st) M) : P pc (some (.long x) :: r) st M := g_lload_n hR (kk := 0) (i := 0) rfl rfl hd k
theorem r_lstore0 (hR : Bd G cc own nL d rt Q P) {b0 b1 : Option Value} {r : List (Option Value)} {x : Int64} (hd : decode cc pc = .ok (.lstore_n 0, 1)) (k : P (pc + 1) (some (.long x) :: none :: r) st M) : P pc (b0 :: b1 :: r) (.long x :: st) M := by
  refine g_lstore_n hR (kk := 0) (i := 0) rfl (by simp) (okSt_of0 ) rfl hd k
theorem r_aload0 (hR : Bd G cc own nL d rt Q P) {r : List (Option Value)} {x : Nat} (hd : decode cc pc = .ok (.aload_n 0, 1)) (k : P (pc + 1) (some (.ref x) :: r) (.ref x :: st) M) : P pc (some (.ref x) :: r) st M := g_aload_n hR (kk := 0) (i := 0) rfl rfl hd k
theorem r_astore0 (hR : Bd G cc own nL d rt Q P) {b0 : Option Value} {r : List (Option Value)} {x : Nat} (hd : decode cc pc = .ok (.astore_n 0, 1)) (k : P (pc + 1) (some (.ref x) :: r) st M) : P pc (b0 :: r) (.ref x :: st) M := by
  refine g_astore_n hR (kk := 0) (i := 0) rfl (by simp) (okSt_of0 ) rfl hd k
theorem r_iinc0 (hR : Bd G cc own nL d rt Q P) {r : List (Option Value)} {x : Int32} {n : Int} (v : Int32) (hv : Int32.ofInt n = v) (hd : decode cc pc = .ok (.iinc 0 n, 3)) (k : P (pc + 3) (some (.int (x + v)) :: r) st M) : P pc (some (.int x) :: r) st M := by
  refine g_iinc hR (i := 0) v (by simp) (okSt_of0 ) rfl hv rfl hd k
theorem r_iload1 (hR : Bd G cc own nL d rt Q P) {a0 : Option Value} {r : List (Option Value)} {x : Int32} (hd : decode cc pc = .ok (.iload_n 1, 1)) (k : P (pc + 1) (a0 :: some (.int x) :: r) (.int x :: st) M) : P pc (a0 :: some (.int x) :: r) st M := g_iload_n hR (kk := 1) (i := 1) rfl rfl hd k
theorem r_istore1 (hR : Bd G cc own nL d rt Q P) {a0 : Option Value} {b0 : Option Value} {r : List (Option Value)} {x : Int32} (ho : ∀ v, a0 = some v → v.category = 1) (hd : decode cc pc = .ok (.istore_n 1, 1)) (k : P (pc + 1) (a0 :: some (.int x) :: r) st M) : P pc (a0 :: b0 :: r) (.int x :: st) M := by
  refine g_istore_n hR (kk := 1) (i := 1) rfl (by simp) (okSt_of1 ho) rfl hd k
theorem r_lload1 (hR : Bd G cc own nL d rt Q P) {a0 : Option Value} {r : List (Option Value)} {x : Int64} (hd : decode cc pc = .ok (.lload_n 1, 1)) (k : P (pc + 1) (a0 :: some (.long x) :: r) (.long x :: st) M) : P pc (a0 :: some (.long x) :: r) st M := g_lload_n hR (kk := 1) (i := 1) rfl rfl hd k
theorem r_lstore1 (hR : Bd G cc own nL d rt Q P) {a0 : Option Value} {b0 b1 : Option Value} {r : List (Option Value)} {x : Int64} (ho : ∀ v, a0 = some v → v.category = 1) (hd : decode cc pc = .ok (.lstore_n 1, 1)) (k : P (pc + 1) (a0 :: some (.long x) :: none :: r) st M) : P pc (a0 :: b0 :: b1 :: r) (.long x :: st) M := by
  refine g_lstore_n hR (kk := 1) (i := 1) rfl (by simp) (okSt_of1 ho) rfl hd k
theorem r_aload1 (hR : Bd G cc own nL d rt Q P) {a0 : Option Value} {r : List (Option Value)} {x : Nat} (hd : decode cc pc = .ok (.aload_n 1, 1)) (k : P (pc + 1) (a0 :: some (.ref x) :: r) (.ref x :: st) M) : P pc (a0 :: some (.ref x) :: r) st M := g_aload_n hR (kk := 1) (i := 1) rfl rfl hd k
theorem r_astore1 (hR : Bd G cc own nL d rt Q P) {a0 : Option Value} {b0 : Option Value} {r : List (Option Value)} {x : Nat} (ho : ∀ v, a0 = some v → v.category = 1) (hd : decode cc pc = .ok (.astore_n 1, 1)) (k : P (pc + 1) (a0 :: some (.ref x) :: r) st M) : P pc (a0 :: b0 :: r) (.ref x :: st) M := by
  refine g_astore_n hR (kk := 1) (i := 1) rfl (by simp) (okSt_of1 ho) rfl hd k
theorem r_iinc1 (hR : Bd G cc own nL d rt Q P) {a0 : Option Value} {r : List (Option Value)} {x : Int32} {n : Int} (v : Int32) (hv : Int32.ofInt n = v) (ho : ∀ v, a0 = some v → v.category = 1) (hd : decode cc pc = .ok (.iinc 1 n, 3)) (k : P (pc + 3) (a0 :: some (.int (x + v)) :: r) st M) : P pc (a0 :: some (.int x) :: r) st M := by
  refine g_iinc hR (i := 1) v (by simp) (okSt_of1 ho) rfl hv rfl hd k
theorem r_iload2 (hR : Bd G cc own nL d rt Q P) {a0 a1 : Option Value} {r : List (Option Value)} {x : Int32} (hd : decode cc pc = .ok (.iload_n 2, 1)) (k : P (pc + 1) (a0 :: a1 :: some (.int x) :: r) (.int x :: st) M) : P pc (a0 :: a1 :: some (.int x) :: r) st M := g_iload_n hR (kk := 2) (i := 2) rfl rfl hd k
theorem r_istore2 (hR : Bd G cc own nL d rt Q P) {a0 a1 : Option Value} {b0 : Option Value} {r : List (Option Value)} {x : Int32} (ho : ∀ v, a1 = some v → v.category = 1) (hd : decode cc pc = .ok (.istore_n 2, 1)) (k : P (pc + 1) (a0 :: a1 :: some (.int x) :: r) st M) : P pc (a0 :: a1 :: b0 :: r) (.int x :: st) M := by
  refine g_istore_n hR (kk := 2) (i := 2) rfl (by simp) (okSt_of2 ho) rfl hd k
theorem r_lload2 (hR : Bd G cc own nL d rt Q P) {a0 a1 : Option Value} {r : List (Option Value)} {x : Int64} (hd : decode cc pc = .ok (.lload_n 2, 1)) (k : P (pc + 1) (a0 :: a1 :: some (.long x) :: r) (.long x :: st) M) : P pc (a0 :: a1 :: some (.long x) :: r) st M := g_lload_n hR (kk := 2) (i := 2) rfl rfl hd k
theorem r_lstore2 (hR : Bd G cc own nL d rt Q P) {a0 a1 : Option Value} {b0 b1 : Option Value} {r : List (Option Value)} {x : Int64} (ho : ∀ v, a1 = some v → v.category = 1) (hd : decode cc pc = .ok (.lstore_n 2, 1)) (k : P (pc + 1) (a0 :: a1 :: some (.long x) :: none :: r) st M) : P pc (a0 :: a1 :: b0 :: b1 :: r) (.long x :: st) M := by
  refine g_lstore_n hR (kk := 2) (i := 2) rfl (by simp) (okSt_of2 ho) rfl hd k
theorem r_aload2 (hR : Bd G cc own nL d rt Q P) {a0 a1 : Option Value} {r : List (Option Value)} {x : Nat} (hd : decode cc pc = .ok (.aload_n 2, 1)) (k : P (pc + 1) (a0 :: a1 :: some (.ref x) :: r) (.ref x :: st) M) : P pc (a0 :: a1 :: some (.ref x) :: r) st M := g_aload_n hR (kk := 2) (i := 2) rfl rfl hd k
theorem r_astore2 (hR : Bd G cc own nL d rt Q P) {a0 a1 : Option Value} {b0 : Option Value} {r : List (Option Value)} {x : Nat} (ho : ∀ v, a1 = some v → v.category = 1) (hd : decode cc pc = .ok (.astore_n 2, 1)) (k : P (pc + 1) (a0 :: a1 :: some (.ref x) :: r) st M) : P pc (a0 :: a1 :: b0 :: r) (.ref x :: st) M := by
  refine g_astore_n hR (kk := 2) (i := 2) rfl (by simp) (okSt_of2 ho) rfl hd k
theorem r_iinc2 (hR : Bd G cc own nL d rt Q P) {a0 a1 : Option Value} {r : List (Option Value)} {x : Int32} {n : Int} (v : Int32) (hv : Int32.ofInt n = v) (ho : ∀ v, a1 = some v → v.category = 1) (hd : decode cc pc = .ok (.iinc 2 n, 3)) (k : P (pc + 3) (a0 :: a1 :: some (.int (x + v)) :: r) st M) : P pc (a0 :: a1 :: some (.int x) :: r) st M := by
  refine g_iinc hR (i := 2) v (by simp) (okSt_of2 ho) rfl hv rfl hd k
theorem r_iload3 (hR : Bd G cc own nL d rt Q P) {a0 a1 a2 : Option Value} {r : List (Option Value)} {x : Int32} (hd : decode cc pc = .ok (.iload_n 3, 1)) (k : P (pc + 1) (a0 :: a1 :: a2 :: some (.int x) :: r) (.int x :: st) M) : P pc (a0 :: a1 :: a2 :: some (.int x) :: r) st M := g_iload_n hR (kk := 3) (i := 3) rfl rfl hd k
theorem r_istore3 (hR : Bd G cc own nL d rt Q P) {a0 a1 a2 : Option Value} {b0 : Option Value} {r : List (Option Value)} {x : Int32} (ho : ∀ v, a2 = some v → v.category = 1) (hd : decode cc pc = .ok (.istore_n 3, 1)) (k : P (pc + 1) (a0 :: a1 :: a2 :: some (.int x) :: r) st M) : P pc (a0 :: a1 :: a2 :: b0 :: r) (.int x :: st) M := by
  refine g_istore_n hR (kk := 3) (i := 3) rfl (by simp) (okSt_of3 ho) rfl hd k
theorem r_lload3 (hR : Bd G cc own nL d rt Q P) {a0 a1 a2 : Option Value} {r : List (Option Value)} {x : Int64} (hd : decode cc pc = .ok (.lload_n 3, 1)) (k : P (pc + 1) (a0 :: a1 :: a2 :: some (.long x) :: r) (.long x :: st) M) : P pc (a0 :: a1 :: a2 :: some (.long x) :: r) st M := g_lload_n hR (kk := 3) (i := 3) rfl rfl hd k
theorem r_lstore3 (hR : Bd G cc own nL d rt Q P) {a0 a1 a2 : Option Value} {b0 b1 : Option Value} {r : List (Option Value)} {x : Int64} (ho : ∀ v, a2 = some v → v.category = 1) (hd : decode cc pc = .ok (.lstore_n 3, 1)) (k : P (pc + 1) (a0 :: a1 :: a2 :: some (.long x) :: none :: r) st M) : P pc (a0 :: a1 :: a2 :: b0 :: b1 :: r) (.long x :: st) M := by
  refine g_lstore_n hR (kk := 3) (i := 3) rfl (by simp) (okSt_of3 ho) rfl hd k
theorem r_aload3 (hR : Bd G cc own nL d rt Q P) {a0 a1 a2 : Option Value} {r : List (Option Value)} {x : Nat} (hd : decode cc pc = .ok (.aload_n 3, 1)) (k : P (pc + 1) (a0 :: a1 :: a2 :: some (.ref x) :: r) (.ref x :: st) M) : P pc (a0 :: a1 :: a2 :: some (.ref x) :: r) st M := g_aload_n hR (kk := 3) (i := 3) rfl rfl hd k
theorem r_astore3 (hR : Bd G cc own nL d rt Q P) {a0 a1 a2 : Option Value} {b0 : Option Value} {r : List (Option Value)} {x : Nat} (ho : ∀ v, a2 = some v → v.category = 1) (hd : decode cc pc = .ok (.astore_n 3, 1)) (k : P (pc + 1) (a0 :: a1 :: a2 :: some (.ref x) :: r) st M) : P pc (a0 :: a1 :: a2 :: b0 :: r) (.ref x :: st) M := by
  refine g_astore_n hR (kk := 3) (i := 3) rfl (by simp) (okSt_of3 ho) rfl hd k
theorem r_iinc3 (hR : Bd G cc own nL d rt Q P) {a0 a1 a2 : Option Value} {r : List (Option Value)} {x : Int32} {n : Int} (v : Int32) (hv : Int32.ofInt n = v) (ho : ∀ v, a2 = some v → v.category = 1) (hd : decode cc pc = .ok (.iinc 3 n, 3)) (k : P (pc + 3) (a0 :: a1 :: a2 :: some (.int (x + v)) :: r) st M) : P pc (a0 :: a1 :: a2 :: some (.int x) :: r) st M := by
  refine g_iinc hR (i := 3) v (by simp) (okSt_of3 ho) rfl hv rfl hd k
theorem r_iload4 (hR : Bd G cc own nL d rt Q P) {a0 a1 a2 a3 : Option Value} {r : List (Option Value)} {x : Int32} (hd : decode cc pc = .ok (.iload 4, 2)) (k : P (pc + 2) (a0 :: a1 :: a2 :: a3 :: some (.int x) :: r) (.int x :: st) M) : P pc (a0 :: a1 :: a2 :: a3 :: some (.int x) :: r) st M := g_iload hR (i := 4) rfl hd k
theorem r_istore4 (hR : Bd G cc own nL d rt Q P) {a0 a1 a2 a3 : Option Value} {b0 : Option Value} {r : List (Option Value)} {x : Int32} (ho : ∀ v, a3 = some v → v.category = 1) (hd : decode cc pc = .ok (.istore 4, 2)) (k : P (pc + 2) (a0 :: a1 :: a2 :: a3 :: some (.int x) :: r) st M) : P pc (a0 :: a1 :: a2 :: a3 :: b0 :: r) (.int x :: st) M := by
  refine g_istore hR (i := 4) (by simp) (okSt_of4 ho) rfl hd k
theorem r_lload4 (hR : Bd G cc own nL d rt Q P) {a0 a1 a2 a3 : Option Value} {r : List (Option Value)} {x : Int64} (hd : decode cc pc = .ok (.lload 4, 2)) (k : P (pc + 2) (a0 :: a1 :: a2 :: a3 :: some (.long x) :: r) (.long x :: st) M) : P pc (a0 :: a1 :: a2 :: a3 :: some (.long x) :: r) st M := g_lload hR (i := 4) rfl hd k
theorem r_lstore4 (hR : Bd G cc own nL d rt Q P) {a0 a1 a2 a3 : Option Value} {b0 b1 : Option Value} {r : List (Option Value)} {x : Int64} (ho : ∀ v, a3 = some v → v.category = 1) (hd : decode cc pc = .ok (.lstore 4, 2)) (k : P (pc + 2) (a0 :: a1 :: a2 :: a3 :: some (.long x) :: none :: r) st M) : P pc (a0 :: a1 :: a2 :: a3 :: b0 :: b1 :: r) (.long x :: st) M := by
  refine g_lstore hR (i := 4) (by simp) (okSt_of4 ho) rfl hd k
theorem r_aload4 (hR : Bd G cc own nL d rt Q P) {a0 a1 a2 a3 : Option Value} {r : List (Option Value)} {x : Nat} (hd : decode cc pc = .ok (.aload 4, 2)) (k : P (pc + 2) (a0 :: a1 :: a2 :: a3 :: some (.ref x) :: r) (.ref x :: st) M) : P pc (a0 :: a1 :: a2 :: a3 :: some (.ref x) :: r) st M := g_aload hR (i := 4) rfl hd k
theorem r_astore4 (hR : Bd G cc own nL d rt Q P) {a0 a1 a2 a3 : Option Value} {b0 : Option Value} {r : List (Option Value)} {x : Nat} (ho : ∀ v, a3 = some v → v.category = 1) (hd : decode cc pc = .ok (.astore 4, 2)) (k : P (pc + 2) (a0 :: a1 :: a2 :: a3 :: some (.ref x) :: r) st M) : P pc (a0 :: a1 :: a2 :: a3 :: b0 :: r) (.ref x :: st) M := by
  refine g_astore hR (i := 4) (by simp) (okSt_of4 ho) rfl hd k
theorem r_iinc4 (hR : Bd G cc own nL d rt Q P) {a0 a1 a2 a3 : Option Value} {r : List (Option Value)} {x : Int32} {n : Int} (v : Int32) (hv : Int32.ofInt n = v) (ho : ∀ v, a3 = some v → v.category = 1) (hd : decode cc pc = .ok (.iinc 4 n, 3)) (k : P (pc + 3) (a0 :: a1 :: a2 :: a3 :: some (.int (x + v)) :: r) st M) : P pc (a0 :: a1 :: a2 :: a3 :: some (.int x) :: r) st M := by
  refine g_iinc hR (i := 4) v (by simp) (okSt_of4 ho) rfl hv rfl hd k
theorem r_iload5 (hR : Bd G cc own nL d rt Q P) {a0 a1 a2 a3 a4 : Option Value} {r : List (Option Value)} {x : Int32} (hd : decode cc pc = .ok (.iload 5, 2)) (k : P (pc + 2) (a0 :: a1 :: a2 :: a3 :: a4 :: some (.int x) :: r) (.int x :: st) M) : P pc (a0 :: a1 :: a2 :: a3 :: a4 :: some (.int x) :: r) st M := g_iload hR (i := 5) rfl hd k
theorem r_istore5 (hR : Bd G cc own nL d rt Q P) {a0 a1 a2 a3 a4 : Option Value} {b0 : Option Value} {r : List (Option Value)} {x : Int32} (ho : ∀ v, a4 = some v → v.category = 1) (hd : decode cc pc = .ok (.istore 5, 2)) (k : P (pc + 2) (a0 :: a1 :: a2 :: a3 :: a4 :: some (.int x) :: r) st M) : P pc (a0 :: a1 :: a2 :: a3 :: a4 :: b0 :: r) (.int x :: st) M := by
  refine g_istore hR (i := 5) (by simp) (okSt_of5 ho) rfl hd k
theorem r_lload5 (hR : Bd G cc own nL d rt Q P) {a0 a1 a2 a3 a4 : Option Value} {r : List (Option Value)} {x : Int64} (hd : decode cc pc = .ok (.lload 5, 2)) (k : P (pc + 2) (a0 :: a1 :: a2 :: a3 :: a4 :: some (.long x) :: r) (.long x :: st) M) : P pc (a0 :: a1 :: a2 :: a3 :: a4 :: some (.long x) :: r) st M := g_lload hR (i := 5) rfl hd k
theorem r_lstore5 (hR : Bd G cc own nL d rt Q P) {a0 a1 a2 a3 a4 : Option Value} {b0 b1 : Option Value} {r : List (Option Value)} {x : Int64} (ho : ∀ v, a4 = some v → v.category = 1) (hd : decode cc pc = .ok (.lstore 5, 2)) (k : P (pc + 2) (a0 :: a1 :: a2 :: a3 :: a4 :: some (.long x) :: none :: r) st M) : P pc (a0 :: a1 :: a2 :: a3 :: a4 :: b0 :: b1 :: r) (.long x :: st) M := by
  refine g_lstore hR (i := 5) (by simp) (okSt_of5 ho) rfl hd k
theorem r_aload5 (hR : Bd G cc own nL d rt Q P) {a0 a1 a2 a3 a4 : Option Value} {r : List (Option Value)} {x : Nat} (hd : decode cc pc = .ok (.aload 5, 2)) (k : P (pc + 2) (a0 :: a1 :: a2 :: a3 :: a4 :: some (.ref x) :: r) (.ref x :: st) M) : P pc (a0 :: a1 :: a2 :: a3 :: a4 :: some (.ref x) :: r) st M := g_aload hR (i := 5) rfl hd k
theorem r_astore5 (hR : Bd G cc own nL d rt Q P) {a0 a1 a2 a3 a4 : Option Value} {b0 : Option Value} {r : List (Option Value)} {x : Nat} (ho : ∀ v, a4 = some v → v.category = 1) (hd : decode cc pc = .ok (.astore 5, 2)) (k : P (pc + 2) (a0 :: a1 :: a2 :: a3 :: a4 :: some (.ref x) :: r) st M) : P pc (a0 :: a1 :: a2 :: a3 :: a4 :: b0 :: r) (.ref x :: st) M := by
  refine g_astore hR (i := 5) (by simp) (okSt_of5 ho) rfl hd k
theorem r_iinc5 (hR : Bd G cc own nL d rt Q P) {a0 a1 a2 a3 a4 : Option Value} {r : List (Option Value)} {x : Int32} {n : Int} (v : Int32) (hv : Int32.ofInt n = v) (ho : ∀ v, a4 = some v → v.category = 1) (hd : decode cc pc = .ok (.iinc 5 n, 3)) (k : P (pc + 3) (a0 :: a1 :: a2 :: a3 :: a4 :: some (.int (x + v)) :: r) st M) : P pc (a0 :: a1 :: a2 :: a3 :: a4 :: some (.int x) :: r) st M := by
  refine g_iinc hR (i := 5) v (by simp) (okSt_of5 ho) rfl hv rfl hd k
theorem r_iload6 (hR : Bd G cc own nL d rt Q P) {a0 a1 a2 a3 a4 a5 : Option Value} {r : List (Option Value)} {x : Int32} (hd : decode cc pc = .ok (.iload 6, 2)) (k : P (pc + 2) (a0 :: a1 :: a2 :: a3 :: a4 :: a5 :: some (.int x) :: r) (.int x :: st) M) : P pc (a0 :: a1 :: a2 :: a3 :: a4 :: a5 :: some (.int x) :: r) st M := g_iload hR (i := 6) rfl hd k
theorem r_istore6 (hR : Bd G cc own nL d rt Q P) {a0 a1 a2 a3 a4 a5 : Option Value} {b0 : Option Value} {r : List (Option Value)} {x : Int32} (ho : ∀ v, a5 = some v → v.category = 1) (hd : decode cc pc = .ok (.istore 6, 2)) (k : P (pc + 2) (a0 :: a1 :: a2 :: a3 :: a4 :: a5 :: some (.int x) :: r) st M) : P pc (a0 :: a1 :: a2 :: a3 :: a4 :: a5 :: b0 :: r) (.int x :: st) M := by
  refine g_istore hR (i := 6) (by simp) (okSt_of6 ho) rfl hd k
theorem r_lload6 (hR : Bd G cc own nL d rt Q P) {a0 a1 a2 a3 a4 a5 : Option Value} {r : List (Option Value)} {x : Int64} (hd : decode cc pc = .ok (.lload 6, 2)) (k : P (pc + 2) (a0 :: a1 :: a2 :: a3 :: a4 :: a5 :: some (.long x) :: r) (.long x :: st) M) : P pc (a0 :: a1 :: a2 :: a3 :: a4 :: a5 :: some (.long x) :: r) st M := g_lload hR (i := 6) rfl hd k
theorem r_lstore6 (hR : Bd G cc own nL d rt Q P) {a0 a1 a2 a3 a4 a5 : Option Value} {b0 b1 : Option Value} {r : List (Option Value)} {x : Int64} (ho : ∀ v, a5 = some v → v.category = 1) (hd : decode cc pc = .ok (.lstore 6, 2)) (k : P (pc + 2) (a0 :: a1 :: a2 :: a3 :: a4 :: a5 :: some (.long x) :: none :: r) st M) : P pc (a0 :: a1 :: a2 :: a3 :: a4 :: a5 :: b0 :: b1 :: r) (.long x :: st) M := by
  refine g_lstore hR (i := 6) (by simp) (okSt_of6 ho) rfl hd k
theorem r_aload6 (hR : Bd G cc own nL d rt Q P) {a0 a1 a2 a3 a4 a5 : Option Value} {r : List (Option Value)} {x : Nat} (hd : decode cc pc = .ok (.aload 6, 2)) (k : P (pc + 2) (a0 :: a1 :: a2 :: a3 :: a4 :: a5 :: some (.ref x) :: r) (.ref x :: st) M) : P pc (a0 :: a1 :: a2 :: a3 :: a4 :: a5 :: some (.ref x) :: r) st M := g_aload hR (i := 6) rfl hd k
theorem r_astore6 (hR : Bd G cc own nL d rt Q P) {a0 a1 a2 a3 a4 a5 : Option Value} {b0 : Option Value} {r : List (Option Value)} {x : Nat} (ho : ∀ v, a5 = some v → v.category = 1) (hd : decode cc pc = .ok (.astore 6, 2)) (k : P (pc + 2) (a0 :: a1 :: a2 :: a3 :: a4 :: a5 :: some (.ref x) :: r) st M) : P pc (a0 :: a1 :: a2 :: a3 :: a4 :: a5 :: b0 :: r) (.ref x :: st) M := by
  refine g_astore hR (i := 6) (by simp) (okSt_of6 ho) rfl hd k
theorem r_iinc6 (hR : Bd G cc own nL d rt Q P) {a0 a1 a2 a3 a4 a5 : Option Value} {r : List (Option Value)} {x : Int32} {n : Int} (v : Int32) (hv : Int32.ofInt n = v) (ho : ∀ v, a5 = some v → v.category = 1) (hd : decode cc pc = .ok (.iinc 6 n, 3)) (k : P (pc + 3) (a0 :: a1 :: a2 :: a3 :: a4 :: a5 :: some (.int (x + v)) :: r) st M) : P pc (a0 :: a1 :: a2 :: a3 :: a4 :: a5 :: some (.int x) :: r) st M := by
  refine g_iinc hR (i := 6) v (by simp) (okSt_of6 ho) rfl hv rfl hd k
theorem r_iload7 (hR : Bd G cc own nL d rt Q P) {a0 a1 a2 a3 a4 a5 a6 : Option Value} {r : List (Option Value)} {x : Int32} (hd : decode cc pc = .ok (.iload 7, 2)) (k : P (pc + 2) (a0 :: a1 :: a2 :: a3 :: a4 :: a5 :: a6 :: some (.int x) :: r) (.int x :: st) M) : P pc (a0 :: a1 :: a2 :: a3 :: a4 :: a5 :: a6 :: some (.int x) :: r) st M := g_iload hR (i := 7) rfl hd k
theorem r_istore7 (hR : Bd G cc own nL d rt Q P) {a0 a1 a2 a3 a4 a5 a6 : Option Value} {b0 : Option Value} {r : List (Option Value)} {x : Int32} (ho : ∀ v, a6 = some v → v.category = 1) (hd : decode cc pc = .ok (.istore 7, 2)) (k : P (pc + 2) (a0 :: a1 :: a2 :: a3 :: a4 :: a5 :: a6 :: some (.int x) :: r) st M) : P pc (a0 :: a1 :: a2 :: a3 :: a4 :: a5 :: a6 :: b0 :: r) (.int x :: st) M := by
  refine g_istore hR (i := 7) (by simp) (okSt_of7 ho) rfl hd k
theorem r_lload7 (hR : Bd G cc own nL d rt Q P) {a0 a1 a2 a3 a4 a5 a6 : Option Value} {r : List (Option Value)} {x : Int64} (hd : decode cc pc = .ok (.lload 7, 2)) (k : P (pc + 2) (a0 :: a1 :: a2 :: a3 :: a4 :: a5 :: a6 :: some (.long x) :: r) (.long x :: st) M) : P pc (a0 :: a1 :: a2 :: a3 :: a4 :: a5 :: a6 :: some (.long x) :: r) st M := g_lload hR (i := 7) rfl hd k
theorem r_lstore7 (hR : Bd G cc own nL d rt Q P) {a0 a1 a2 a3 a4 a5 a6 : Option Value} {b0 b1 : Option Value} {r : List (Option Value)} {x : Int64} (ho : ∀ v, a6 = some v → v.category = 1) (hd : decode cc pc = .ok (.lstore 7, 2)) (k : P (pc + 2) (a0 :: a1 :: a2 :: a3 :: a4 :: a5 :: a6 :: some (.long x) :: none :: r) st M) : P pc (a0 :: a1 :: a2 :: a3 :: a4 :: a5 :: a6 :: b0 :: b1 :: r) (.long x :: st) M := by
  refine g_lstore hR (i := 7) (by simp) (okSt_of7 ho) rfl hd k
theorem r_aload7 (hR : Bd G cc own nL d rt Q P) {a0 a1 a2 a3 a4 a5 a6 : Option Value} {r : List (Option Value)} {x : Nat} (hd : decode cc pc = .ok (.aload 7, 2)) (k : P (pc + 2) (a0 :: a1 :: a2 :: a3 :: a4 :: a5 :: a6 :: some (.ref x) :: r) (.ref x :: st) M) : P pc (a0 :: a1 :: a2 :: a3 :: a4 :: a5 :: a6 :: some (.ref x) :: r) st M := g_aload hR (i := 7) rfl hd k
theorem r_astore7 (hR : Bd G cc own nL d rt Q P) {a0 a1 a2 a3 a4 a5 a6 : Option Value} {b0 : Option Value} {r : List (Option Value)} {x : Nat} (ho : ∀ v, a6 = some v → v.category = 1) (hd : decode cc pc = .ok (.astore 7, 2)) (k : P (pc + 2) (a0 :: a1 :: a2 :: a3 :: a4 :: a5 :: a6 :: some (.ref x) :: r) st M) : P pc (a0 :: a1 :: a2 :: a3 :: a4 :: a5 :: a6 :: b0 :: r) (.ref x :: st) M := by
  refine g_astore hR (i := 7) (by simp) (okSt_of7 ho) rfl hd k
theorem r_iinc7 (hR : Bd G cc own nL d rt Q P) {a0 a1 a2 a3 a4 a5 a6 : Option Value} {r : List (Option Value)} {x : Int32} {n : Int} (v : Int32) (hv : Int32.ofInt n = v) (ho : ∀ v, a6 = some v → v.category = 1) (hd : decode cc pc = .ok (.iinc 7 n, 3)) (k : P (pc + 3) (a0 :: a1 :: a2 :: a3 :: a4 :: a5 :: a6 :: some (.int (x + v)) :: r) st M) : P pc (a0 :: a1 :: a2 :: a3 :: a4 :: a5 :: a6 :: some (.int x) :: r) st M := by
  refine g_iinc hR (i := 7) v (by simp) (okSt_of7 ho) rfl hv rfl hd k
theorem r_iload8 (hR : Bd G cc own nL d rt Q P) {a0 a1 a2 a3 a4 a5 a6 a7 : Option Value} {r : List (Option Value)} {x : Int32} (hd : decode cc pc = .ok (.iload 8, 2)) (k : P (pc + 2) (a0 :: a1 :: a2 :: a3 :: a4 :: a5 :: a6 :: a7 :: some (.int x) :: r) (.int x :: st) M) : P pc (a0 :: a1 :: a2 :: a3 :: a4 :: a5 :: a6 :: a7 :: some (.int x) :: r) st M := g_iload hR (i := 8) rfl hd k
theorem r_istore8 (hR : Bd G cc own nL d rt Q P) {a0 a1 a2 a3 a4 a5 a6 a7 : Option Value} {b0 : Option Value} {r : List (Option Value)} {x : Int32} (ho : ∀ v, a7 = some v → v.category = 1) (hd : decode cc pc = .ok (.istore 8, 2)) (k : P (pc + 2) (a0 :: a1 :: a2 :: a3 :: a4 :: a5 :: a6 :: a7 :: some (.int x) :: r) st M) : P pc (a0 :: a1 :: a2 :: a3 :: a4 :: a5 :: a6 :: a7 :: b0 :: r) (.int x :: st) M := by
  refine g_istore hR (i := 8) (by simp) (okSt_of8 ho) rfl hd k
theorem r_lload8 (hR : Bd G cc own nL d rt Q P) {a0 a1 a2 a3 a4 a5 a6 a7 : Option Value} {r : List (Option Value)} {x : Int64} (hd : decode cc pc = .ok (.lload 8, 2)) (k : P (pc + 2) (a0 :: a1 :: a2 :: a3 :: a4 :: a5 :: a6 :: a7 :: some (.long x) :: r) (.long x :: st) M) : P pc (a0 :: a1 :: a2 :: a3 :: a4 :: a5 :: a6 :: a7 :: some (.long x) :: r) st M := g_lload hR (i := 8) rfl hd k
theorem r_lstore8 (hR : Bd G cc own nL d rt Q P) {a0 a1 a2 a3 a4 a5 a6 a7 : Option Value} {b0 b1 : Option Value} {r : List (Option Value)} {x : Int64} (ho : ∀ v, a7 = some v → v.category = 1) (hd : decode cc pc = .ok (.lstore 8, 2)) (k : P (pc + 2) (a0 :: a1 :: a2 :: a3 :: a4 :: a5 :: a6 :: a7 :: some (.long x) :: none :: r) st M) : P pc (a0 :: a1 :: a2 :: a3 :: a4 :: a5 :: a6 :: a7 :: b0 :: b1 :: r) (.long x :: st) M := by
  refine g_lstore hR (i := 8) (by simp) (okSt_of8 ho) rfl hd k
theorem r_aload8 (hR : Bd G cc own nL d rt Q P) {a0 a1 a2 a3 a4 a5 a6 a7 : Option Value} {r : List (Option Value)} {x : Nat} (hd : decode cc pc = .ok (.aload 8, 2)) (k : P (pc + 2) (a0 :: a1 :: a2 :: a3 :: a4 :: a5 :: a6 :: a7 :: some (.ref x) :: r) (.ref x :: st) M) : P pc (a0 :: a1 :: a2 :: a3 :: a4 :: a5 :: a6 :: a7 :: some (.ref x) :: r) st M := g_aload hR (i := 8) rfl hd k
theorem r_astore8 (hR : Bd G cc own nL d rt Q P) {a0 a1 a2 a3 a4 a5 a6 a7 : Option Value} {b0 : Option Value} {r : List (Option Value)} {x : Nat} (ho : ∀ v, a7 = some v → v.category = 1) (hd : decode cc pc = .ok (.astore 8, 2)) (k : P (pc + 2) (a0 :: a1 :: a2 :: a3 :: a4 :: a5 :: a6 :: a7 :: some (.ref x) :: r) st M) : P pc (a0 :: a1 :: a2 :: a3 :: a4 :: a5 :: a6 :: a7 :: b0 :: r) (.ref x :: st) M := by
  refine g_astore hR (i := 8) (by simp) (okSt_of8 ho) rfl hd k
theorem r_iinc8 (hR : Bd G cc own nL d rt Q P) {a0 a1 a2 a3 a4 a5 a6 a7 : Option Value} {r : List (Option Value)} {x : Int32} {n : Int} (v : Int32) (hv : Int32.ofInt n = v) (ho : ∀ v, a7 = some v → v.category = 1) (hd : decode cc pc = .ok (.iinc 8 n, 3)) (k : P (pc + 3) (a0 :: a1 :: a2 :: a3 :: a4 :: a5 :: a6 :: a7 :: some (.int (x + v)) :: r) st M) : P pc (a0 :: a1 :: a2 :: a3 :: a4 :: a5 :: a6 :: a7 :: some (.int x) :: r) st M := by
  refine g_iinc hR (i := 8) v (by simp) (okSt_of8 ho) rfl hv rfl hd k
theorem r_iload9 (hR : Bd G cc own nL d rt Q P) {a0 a1 a2 a3 a4 a5 a6 a7 a8 : Option Value} {r : List (Option Value)} {x : Int32} (hd : decode cc pc = .ok (.iload 9, 2)) (k : P (pc + 2) (a0 :: a1 :: a2 :: a3 :: a4 :: a5 :: a6 :: a7 :: a8 :: some (.int x) :: r) (.int x :: st) M) : P pc (a0 :: a1 :: a2 :: a3 :: a4 :: a5 :: a6 :: a7 :: a8 :: some (.int x) :: r) st M := g_iload hR (i := 9) rfl hd k
theorem r_istore9 (hR : Bd G cc own nL d rt Q P) {a0 a1 a2 a3 a4 a5 a6 a7 a8 : Option Value} {b0 : Option Value} {r : List (Option Value)} {x : Int32} (ho : ∀ v, a8 = some v → v.category = 1) (hd : decode cc pc = .ok (.istore 9, 2)) (k : P (pc + 2) (a0 :: a1 :: a2 :: a3 :: a4 :: a5 :: a6 :: a7 :: a8 :: some (.int x) :: r) st M) : P pc (a0 :: a1 :: a2 :: a3 :: a4 :: a5 :: a6 :: a7 :: a8 :: b0 :: r) (.int x :: st) M := by
  refine g_istore hR (i := 9) (by simp) (okSt_of9 ho) rfl hd k
theorem r_lload9 (hR : Bd G cc own nL d rt Q P) {a0 a1 a2 a3 a4 a5 a6 a7 a8 : Option Value} {r : List (Option Value)} {x : Int64} (hd : decode cc pc = .ok (.lload 9, 2)) (k : P (pc + 2) (a0 :: a1 :: a2 :: a3 :: a4 :: a5 :: a6 :: a7 :: a8 :: some (.long x) :: r) (.long x :: st) M) : P pc (a0 :: a1 :: a2 :: a3 :: a4 :: a5 :: a6 :: a7 :: a8 :: some (.long x) :: r) st M := g_lload hR (i := 9) rfl hd k
theorem r_lstore9 (hR : Bd G cc own nL d rt Q P) {a0 a1 a2 a3 a4 a5 a6 a7 a8 : Option Value} {b0 b1 : Option Value} {r : List (Option Value)} {x : Int64} (ho : ∀ v, a8 = some v → v.category = 1) (hd : decode cc pc = .ok (.lstore 9, 2)) (k : P (pc + 2) (a0 :: a1 :: a2 :: a3 :: a4 :: a5 :: a6 :: a7 :: a8 :: some (.long x) :: none :: r) st M) : P pc (a0 :: a1 :: a2 :: a3 :: a4 :: a5 :: a6 :: a7 :: a8 :: b0 :: b1 :: r) (.long x :: st) M := by
  refine g_lstore hR (i := 9) (by simp) (okSt_of9 ho) rfl hd k
theorem r_aload9 (hR : Bd G cc own nL d rt Q P) {a0 a1 a2 a3 a4 a5 a6 a7 a8 : Option Value} {r : List (Option Value)} {x : Nat} (hd : decode cc pc = .ok (.aload 9, 2)) (k : P (pc + 2) (a0 :: a1 :: a2 :: a3 :: a4 :: a5 :: a6 :: a7 :: a8 :: some (.ref x) :: r) (.ref x :: st) M) : P pc (a0 :: a1 :: a2 :: a3 :: a4 :: a5 :: a6 :: a7 :: a8 :: some (.ref x) :: r) st M := g_aload hR (i := 9) rfl hd k
theorem r_astore9 (hR : Bd G cc own nL d rt Q P) {a0 a1 a2 a3 a4 a5 a6 a7 a8 : Option Value} {b0 : Option Value} {r : List (Option Value)} {x : Nat} (ho : ∀ v, a8 = some v → v.category = 1) (hd : decode cc pc = .ok (.astore 9, 2)) (k : P (pc + 2) (a0 :: a1 :: a2 :: a3 :: a4 :: a5 :: a6 :: a7 :: a8 :: some (.ref x) :: r) st M) : P pc (a0 :: a1 :: a2 :: a3 :: a4 :: a5 :: a6 :: a7 :: a8 :: b0 :: r) (.ref x :: st) M := by
  refine g_astore hR (i := 9) (by simp) (okSt_of9 ho) rfl hd k
theorem r_iinc9 (hR : Bd G cc own nL d rt Q P) {a0 a1 a2 a3 a4 a5 a6 a7 a8 : Option Value} {r : List (Option Value)} {x : Int32} {n : Int} (v : Int32) (hv : Int32.ofInt n = v) (ho : ∀ v, a8 = some v → v.category = 1) (hd : decode cc pc = .ok (.iinc 9 n, 3)) (k : P (pc + 3) (a0 :: a1 :: a2 :: a3 :: a4 :: a5 :: a6 :: a7 :: a8 :: some (.int (x + v)) :: r) st M) : P pc (a0 :: a1 :: a2 :: a3 :: a4 :: a5 :: a6 :: a7 :: a8 :: some (.int x) :: r) st M := by
  refine g_iinc hR (i := 9) v (by simp) (okSt_of9 ho) rfl hv rfl hd k
theorem r_iload10 (hR : Bd G cc own nL d rt Q P) {a0 a1 a2 a3 a4 a5 a6 a7 a8 a9 : Option Value} {r : List (Option Value)} {x : Int32} (hd : decode cc pc = .ok (.iload 10, 2)) (k : P (pc + 2) (a0 :: a1 :: a2 :: a3 :: a4 :: a5 :: a6 :: a7 :: a8 :: a9 :: some (.int x) :: r) (.int x :: st) M) : P pc (a0 :: a1 :: a2 :: a3 :: a4 :: a5 :: a6 :: a7 :: a8 :: a9 :: some (.int x) :: r) st M := g_iload hR (i := 10) rfl hd k
theorem r_istore10 (hR : Bd G cc own nL d rt Q P) {a0 a1 a2 a3 a4 a5 a6 a7 a8 a9 : Option Value} {b0 : Option Value} {r : List (Option Value)} {x : Int32} (ho : ∀ v, a9 = some v → v.category = 1) (hd : decode cc pc = .ok (.istore 10, 2)) (k : P (pc + 2) (a0 :: a1 :: a2 :: a3 :: a4 :: a5 :: a6 :: a7 :: a8 :: a9 :: some (.int x) :: r) st M) : P pc (a0 :: a1 :: a2 :: a3 :: a4 :: a5 :: a6 :: a7 :: a8 :: a9 :: b0 :: r) (.int x :: st) M := by
  refine g_istore hR (i := 10) (by simp) (okSt_of10 ho) rfl hd k
theorem r_lload10 (hR : Bd G cc own nL d rt Q P) {a0 a1 a2 a3 a4 a5 a6 a7 a8 a9 : Option Value} {r : List (Option Value)} {x : Int64} (hd : decode cc pc = .ok (.lload 10, 2)) (k : P (pc + 2) (a0 :: a1 :: a2 :: a3 :: a4 :: a5 :: a6 :: a7 :: a8 :: a9 :: some (.long x) :: r) (.long x :: st) M) : P pc (a0 :: a1 :: a2 :: a3 :: a4 :: a5 :: a6 :: a7 :: a8 :: a9 :: some (.long x) :: r) st M := g_lload hR (i := 10) rfl hd k
theorem r_lstore10 (hR : Bd G cc own nL d rt Q P) {a0 a1 a2 a3 a4 a5 a6 a7 a8 a9 : Option Value} {b0 b1 : Option Value} {r : List (Option Value)} {x : Int64} (ho : ∀ v, a9 = some v → v.category = 1) (hd : decode cc pc = .ok (.lstore 10, 2)) (k : P (pc + 2) (a0 :: a1 :: a2 :: a3 :: a4 :: a5 :: a6 :: a7 :: a8 :: a9 :: some (.long x) :: none :: r) st M) : P pc (a0 :: a1 :: a2 :: a3 :: a4 :: a5 :: a6 :: a7 :: a8 :: a9 :: b0 :: b1 :: r) (.long x :: st) M := by
  refine g_lstore hR (i := 10) (by simp) (okSt_of10 ho) rfl hd k
theorem r_aload10 (hR : Bd G cc own nL d rt Q P) {a0 a1 a2 a3 a4 a5 a6 a7 a8 a9 : Option Value} {r : List (Option Value)} {x : Nat} (hd : decode cc pc = .ok (.aload 10, 2)) (k : P (pc + 2) (a0 :: a1 :: a2 :: a3 :: a4 :: a5 :: a6 :: a7 :: a8 :: a9 :: some (.ref x) :: r) (.ref x :: st) M) : P pc (a0 :: a1 :: a2 :: a3 :: a4 :: a5 :: a6 :: a7 :: a8 :: a9 :: some (.ref x) :: r) st M := g_aload hR (i := 10) rfl hd k
theorem r_astore10 (hR : Bd G cc own nL d rt Q P) {a0 a1 a2 a3 a4 a5 a6 a7 a8 a9 : Option Value} {b0 : Option Value} {r : List (Option Value)} {x : Nat} (ho : ∀ v, a9 = some v → v.category = 1) (hd : decode cc pc = .ok (.astore 10, 2)) (k : P (pc + 2) (a0 :: a1 :: a2 :: a3 :: a4 :: a5 :: a6 :: a7 :: a8 :: a9 :: some (.ref x) :: r) st M) : P pc (a0 :: a1 :: a2 :: a3 :: a4 :: a5 :: a6 :: a7 :: a8 :: a9 :: b0 :: r) (.ref x :: st) M := by
  refine g_astore hR (i := 10) (by simp) (okSt_of10 ho) rfl hd k
theorem r_iinc10 (hR : Bd G cc own nL d rt Q P) {a0 a1 a2 a3 a4 a5 a6 a7 a8 a9 : Option Value} {r : List (Option Value)} {x : Int32} {n : Int} (v : Int32) (hv : Int32.ofInt n = v) (ho : ∀ v, a9 = some v → v.category = 1) (hd : decode cc pc = .ok (.iinc 10 n, 3)) (k : P (pc + 3) (a0 :: a1 :: a2 :: a3 :: a4 :: a5 :: a6 :: a7 :: a8 :: a9 :: some (.int (x + v)) :: r) st M) : P pc (a0 :: a1 :: a2 :: a3 :: a4 :: a5 :: a6 :: a7 :: a8 :: a9 :: some (.int x) :: r) st M := by
  refine g_iinc hR (i := 10) v (by simp) (okSt_of10 ho) rfl hv rfl hd k
end Rows
