theorem wI_arr : Cond.arrayClass .int ∈ GT := GT_t 59 (by decide +kernel) rfl
theorem wL_arr : Cond.arrayClass .long ∈ GT := GT_t 172 (by decide +kernel) rfl
theorem wO_ins : Cond.instanceMethod Lib.objectInit ∈ GT := GT_t 23 (by decide +kernel) rfl
theorem wO_cod : Cond.code Lib.objectInit ⟨#[0xb1]⟩ 1 none ∈ GT := GT_t 24 (by decide +kernel) rfl
/-! THE CONSTRUCTORS: a row of cells that grows; behind the first n ones lie L, cell j of L at gb + (n + j) -/
def kW (G : gG) (K : List va_E) : va_W := K.mapIdx (fun o e => (gb G + o, e))
theorem kW_get (G : gG) (K : List va_E) (o : Nat) : (kW G K)[o]? = (K[o]?).map (fun e => (gb G + o, e)) := by
  unfold kW
  rw [List.getElem?_mapIdx]
theorem kW_len (G : gG) (K : List va_E) : (kW G K).length = K.length := by unfold kW; rw [List.length_mapIdx]
theorem kW_set (G : gG) (K : List va_E) (o : Nat) (e : va_E) : (kW G K).set o (gb G + o, e) = kW G (K.set o e) := by
  apply List.ext_getElem?
  intro k
  rw [List.getElem?_set, kW_get, kW_get, kW_len, List.getElem?_set]
  by_cases h : o = k
  · subst h
    rw [if_pos rfl, if_pos rfl]
    split <;> rfl
  · rw [if_neg h, if_neg h]
theorem kW_app (G : gG) (K : List va_E) (e : va_E) : kW G K ++ [(gb G + K.length, e)] = kW G (K ++ [e]) := by
  simp [kW, List.mapIdx_append]
def fK (G : gG) : Nat → Prop := fun q => gb G ≤ q
theorem kW_D (G : gG) (K : List va_E) : va_D (fK G) (kW G K) := by
  refine ⟨fun i j p q hp hq e => ?_, fun k q hq => ?_⟩
  · rw [kW_get] at hp hq
    cases h1 : K[i]? with
    | none => rw [h1] at hp; cases hp
    | some x =>
      cases h2 : K[j]? with
      | none => rw [h2] at hq; cases hq
      | some y =>
        rw [h1] at hp; rw [h2] at hq
        cases hp; cases hq
        have e : gb G + i = gb G + j := e
        omega
  · rw [kW_get] at hq
    cases h1 : K[k]? with
    | none => rw [h1] at hq; cases hq
    | some x =>
      rw [h1] at hq
      cases hq
      exact Nat.le_add_right _ _
def gK (G : gG) (K : List va_E) (H : Heap) : Prop := va_P (gD G) vwCl (kW G K) H ∧ H.size = gb G + K.length
theorem kW_far {G : gG} {K : List va_E} {H : Heap} (h : va_P (gD G) vwCl (kW G K) H) (h0 : 0 < K.length) : gb G + K.length ≤ H.size := by
  have hq : K[K.length - 1]? = some (K[K.length - 1]'(by omega)) := List.getElem?_eq_getElem (by omega)
  have := (h (K.length - 1) (gb G + (K.length - 1), K[K.length - 1]'(by omega)) (by rw [kW_get, hq]; rfl)).lt
  have h2 : gb G + (K.length - 1) < H.size := this
  omega
/-- what the constructors need of the tables beyond the words -/
def kS (G : gG) (U : State) : Prop := va_K (gD G) vwCl (gtys G) U ∧ va_AO "WindRota$Thing" U ∧ va_AO "WindRota$Sheet" U ∧ va_Nw (.methodLinkNest RX1 34 yX5_init RX7) U ∧ va_Nw (.methodLinkNest RX7 28 yX5_init RX7) U ∧ va_Nw (.methodLinkNest RX7 45 yX0_init RX7) U
theorem kS.warm {G : gG} {s U : State} (hW : s.WarmedH U.vm) (h : kS G s) : kS G U := by
  obtain ⟨h1, h2, h3, h4, h5, h6⟩ := h
  exact ⟨va_K.moved hW.alike h1, h2.moved hW.alike, h3.moved hW.alike, va_Nw.warmM hW h4, va_Nw.warmM hW h5, va_Nw.warmM hW h6⟩
theorem kS.same {G : gG} {u U : State} (hv : U.vm = u.vm) (h : kS G u) : kS G U := by
  obtain ⟨h1, h2, h3, h4, h5, h6⟩ := h
  have ha : u.vm.Alike U.vm := by rw [hv]; exact Vm.Alike.refl _
  exact ⟨va_K.moved ha h1, h2.moved ha, h3.moved ha, va_Nw.same rfl hv.symm h4, va_Nw.same rfl hv.symm h5, va_Nw.same rfl hv.symm h6⟩
def rmK (d c n : Nat) : Room := { frames := d, cells := c, slots := n, locals := 30 * d }
def Ck (G : gG) (Y : gY) (d mc ms : Nat) (vs : List Value) (K K' : List va_E) : Prop :=
  ∀ l : Launch, Met l Y.1 (wsY Y) (rmK d mc ms) (va_Pc vs (fun U => kS G U ∧ gK G K U.heap)) (fun _ st oc t => oc = .returned none ∧ gK G K' t.heap ∧ va_F (fK G) st t) mc ms (fK G)
abbrev kP : Type := Nat → Nat → Nat → List (Option Value) → List Value → List va_E → Prop
def Bk (G : gG) (K0 : List va_E) (n : Nat) (cc : ByteArray) (own : String) (nL d CE SE : Nat) (ini : Bool) (P : kP) : Prop :=
  ∃ (p : Program) (l : Launch) (e : Env) (R : Room) (s : State) (m : MethodId) (args : Array Value) (below : List Frame) (meth : Method) (c : Code) (QQ : State → Prop),
    p.tables.exec = Jvm.exec ∧ c.code = cc ∧ c.maxLocals = nL ∧ s.vm.findClass own = some m.cls ∧ (∀ w ∈ GT, w.before args s = true) ∧ (d ≤ R.frames ∧ 30 * d ≤ R.locals ∧ CE ≤ R.cells ∧ SE ≤ R.slots) ∧ kS G s ∧ (ini = true → meth.name = "<init>") ∧ K0.length = n ∧ gb G ≤ s.heap.size ∧
    (∀ a b pc ls st L, P a b pc ls st L ↔ ∀ (H : Heap) (locs : List Loc) (lsA : Array Slot), hasL lsA nL ls → gK G (K0 ++ L) H → va_S (fK G) s.heap H locs → s.heap.size + a = H.size → W p l e R s m args below meth c H locs a b QQ (F0 m pc lsA st))
theorem W_size {p : Program} {l : Launch} {e : Env} {R : Room} {s : State} {m : MethodId} {args : Array Value} {below : List Frame} {meth : Method} {c : Code} {H : Heap} {locs : List Loc} {cells slots : Nat} {QQ : State → Prop} {g : JFrame} (hge : s.heap.size + cells ≤ H.size) (h : s.heap.size + cells = H.size → W p l e R s m args below meth c H locs cells slots QQ g) : W p l e R s m args below meth c H locs cells slots QQ g := by
  intro T hT X
  have h1 : T.heap.size ≤ s.heap.size + cells := X.same.2.2.1
  rw [hT] at h1
  exact h (by omega) T hT X
section Rows
variable {G : gG} {K0 : List va_E} {n : Nat} {cc : ByteArray} {own : String} {nL d CE SE : Nat} {ini : Bool} {P : kP} {a b pc : Nat} {ls : List (Option Value)} {st : List Value} {L : List va_E}
theorem k_iconst (hR : Bk G K0 n cc own nL d CE SE ini P) {z : Int} (x : Int32) (hv : Int32.ofInt z = x) (hd : decode cc pc = .ok (.iconst z, 1)) (k : P a b (pc + 1) ls (.int x :: st) L) : P a b pc ls (st) L := by
  obtain ⟨p, l, e, R, s, m, args, below, meth, c, QQ, hx, hb, hml, hown, hts, hroom, hS0, hini, hn, hgs, hP⟩ := hR
  exact (hP _ _ _ _ _ _).mpr fun H locs lsA h1 h2 h3 h4 => lv_iconst hx hb hd hv ((hP _ _ _ _ _ _).mp k H locs lsA h1 h2 h3 h4)
theorem k_bipush (hR : Bk G K0 n cc own nL d CE SE ini P) {z : Int} (x : Int32) (hv : (Int8.ofInt z).toInt32 = x) (hd : decode cc pc = .ok (.bipush z, 2)) (k : P a b (pc + 2) ls (.int x :: st) L) : P a b pc ls (st) L := by
  obtain ⟨p, l, e, R, s, m, args, below, meth, c, QQ, hx, hb, hml, hown, hts, hroom, hS0, hini, hn, hgs, hP⟩ := hR
  exact (hP _ _ _ _ _ _).mpr fun H locs lsA h1 h2 h3 h4 => lv_bipush hx hb hd hv ((hP _ _ _ _ _ _).mp k H locs lsA h1 h2 h3 h4)
theorem k_sipush (hR : Bk G K0 n cc own nL d CE SE ini P) {z : Int} (x : Int32) (hv : (Int16.ofInt z).toInt32 = x) (hd : decode cc pc = .ok (.sipush z, 3)) (k : P a b (pc + 3) ls (.int x :: st) L) : P a b pc ls (st) L := by
  obtain ⟨p, l, e, R, s, m, args, below, meth, c, QQ, hx, hb, hml, hown, hts, hroom, hS0, hini, hn, hgs, hP⟩ := hR
  exact (hP _ _ _ _ _ _).mpr fun H locs lsA h1 h2 h3 h4 => lv_sipush hx hb hd hv ((hP _ _ _ _ _ _).mp k H locs lsA h1 h2 h3 h4)
theorem k_dup (hR : Bk G K0 n cc own nL d CE SE ini P) {v : Value} (ha : v.category = 1) (hd : decode cc pc = .ok (.dup, 1)) (k : P a b (pc + 1) ls (v :: v :: st) L) : P a b pc ls (v :: st) L := by
  obtain ⟨p, l, e, R, s, m, args, below, meth, c, QQ, hx, hb, hml, hown, hts, hroom, hS0, hini, hn, hgs, hP⟩ := hR
  exact (hP _ _ _ _ _ _).mpr fun H locs lsA h1 h2 h3 h4 => lv_dup hx hb hd ha ((hP _ _ _ _ _ _).mp k H locs lsA h1 h2 h3 h4)
theorem k_iadd (hR : Bk G K0 n cc own nL d CE SE ini P) {x y : Int32} (hd : decode cc pc = .ok (.iadd, 1)) (k : P a b (pc + 1) ls (.int (x + y) :: st) L) : P a b pc ls (.int y :: .int x :: st) L := by
  obtain ⟨p, l, e, R, s, m, args, below, meth, c, QQ, hx, hb, hml, hown, hts, hroom, hS0, hini, hn, hgs, hP⟩ := hR
  exact (hP _ _ _ _ _ _).mpr fun H locs lsA h1 h2 h3 h4 => lv_iadd hx hb hd ((hP _ _ _ _ _ _).mp k H locs lsA h1 h2 h3 h4)
theorem k_goto (hR : Bk G K0 n cc own nL d CE SE ini P) {off : Int} (tgt : Nat) (hd : decode cc pc = .ok (.goto off, 3)) (ht : (pc : Int) + off = (tgt : Int)) (k : P a b tgt ls st L) : P a b pc ls st L := by
  obtain ⟨p, l, e, R, s, m, args, below, meth, c, QQ, hx, hb, hml, hown, hts, hroom, hS0, hini, hn, hgs, hP⟩ := hR
  exact (hP _ _ _ _ _ _).mpr fun H locs lsA h1 h2 h3 h4 => lv_goto hx hb hd ht ((hP _ _ _ _ _ _).mp k H locs lsA h1 h2 h3 h4)
theorem k_ge_t (hR : Bk G K0 n cc own nL d CE SE ini P) {x y : Int32} {off : Int} (tgt : Nat) (h : y ≤ x) (hd : decode cc pc = .ok (.if_icmp .ge off, 3)) (ht : (pc : Int) + off = (tgt : Int)) (k : P a b tgt ls st L) : P a b pc ls (.int y :: .int x :: st) L := by
  obtain ⟨p, l, e, R, s, m, args, below, meth, c, QQ, hx, hb, hml, hown, hts, hroom, hS0, hini, hn, hgs, hP⟩ := hR
  exact (hP _ _ _ _ _ _).mpr fun H locs lsA h1 h2 h3 h4 => lv_icmp_ge hx hb hd ht (fun q => (hP _ _ _ _ _ _).mp k H locs lsA h1 h2 h3 h4) (fun q => absurd h q)
theorem k_ge_f (hR : Bk G K0 n cc own nL d CE SE ini P) {x y : Int32} {off : Int} (tgt : Nat) (h : ¬ y ≤ x) (hd : decode cc pc = .ok (.if_icmp .ge off, 3)) (ht : (pc : Int) + off = (tgt : Int)) (k : P a b (pc + 3) ls st L) : P a b pc ls (.int y :: .int x :: st) L := by
  obtain ⟨p, l, e, R, s, m, args, below, meth, c, QQ, hx, hb, hml, hown, hts, hroom, hS0, hini, hn, hgs, hP⟩ := hR
  exact (hP _ _ _ _ _ _).mpr fun H locs lsA h1 h2 h3 h4 => lv_icmp_ge hx hb hd ht (fun q => absurd q h) (fun q => (hP _ _ _ _ _ _).mp k H locs lsA h1 h2 h3 h4)
theorem k_ne_t (hR : Bk G K0 n cc own nL d CE SE ini P) {x y : Int32} {off : Int} (tgt : Nat) (h : ¬ x = y) (hd : decode cc pc = .ok (.if_icmp .ne off, 3)) (ht : (pc : Int) + off = (tgt : Int)) (k : P a b tgt ls st L) : P a b pc ls (.int y :: .int x :: st) L := by
  obtain ⟨p, l, e, R, s, m, args, below, meth, c, QQ, hx, hb, hml, hown, hts, hroom, hS0, hini, hn, hgs, hP⟩ := hR
  exact (hP _ _ _ _ _ _).mpr fun H locs lsA h1 h2 h3 h4 => lv_icmp_ne hx hb hd ht (fun q => (hP _ _ _ _ _ _).mp k H locs lsA h1 h2 h3 h4) (fun q => absurd q h)
theorem k_ne_f (hR : Bk G K0 n cc own nL d CE SE ini P) {x y : Int32} {off : Int} (tgt : Nat) (h : x = y) (hd : decode cc pc = .ok (.if_icmp .ne off, 3)) (ht : (pc : Int) + off = (tgt : Int)) (k : P a b (pc + 3) ls st L) : P a b pc ls (.int y :: .int x :: st) L := by
  obtain ⟨p, l, e, R, s, m, args, below, meth, c, QQ, hx, hb, hml, hown, hts, hroom, hS0, hini, hn, hgs, hP⟩ := hR
  exact (hP _ _ _ _ _ _).mpr fun H locs lsA h1 h2 h3 h4 => lv_icmp_ne hx hb hd ht (fun q => absurd h q) (fun q => (hP _ _ _ _ _ _).mp k H locs lsA h1 h2 h3 h4)
theorem k_iload (hR : Bk G K0 n cc own nL d CE SE ini P) {kk : Fin 4} (i : Nat) {x : Int32} (hi : (kk : Nat) = i) (hl : ls[i]? = some (some (.int x))) (hd : decode cc pc = .ok (.iload_n kk, 1)) (k : P a b (pc + 1) ls (.int x :: st) L) : P a b pc ls st L := by
  obtain ⟨p, l, e, R, s, m, args, below, meth, c, QQ, hx, hb, hml, hown, hts, hroom, hS0, hini, hn, hgs, hP⟩ := hR
  exact (hP _ _ _ _ _ _).mpr fun H locs lsA h1 h2 h3 h4 => lv_iload_n hx hb hd hi (h1.at hl) ((hP _ _ _ _ _ _).mp k H locs lsA h1 h2 h3 h4)
theorem k_istore (hR : Bk G K0 n cc own nL d CE SE ini P) {kk : Fin 4} (i : Nat) {x : Int32} (ls' : List (Option Value)) (hi : (kk : Nat) = i) (hn' : i < ls.length) (hok : okSt ls i) (hl : ls.set i (some (.int x)) = ls') (hd : decode cc pc = .ok (.istore_n kk, 1)) (k : P a b (pc + 1) ls' st L) : P a b pc ls (.int x :: st) L := by
  obtain ⟨p, l, e, R, s, m, args, below, meth, c, QQ, hx, hb, hml, hown, hts, hroom, hS0, hini, hn, hgs, hP⟩ := hR
  refine (hP _ _ _ _ _ _).mpr fun H locs lsA h1 h2 h3 h4 => ?_
  obtain ⟨hlen, lv, q1, q2⟩ := h1
  exact lv_istore_n hx hb hd hi q1 (by omega) rfl (fun lsB hB => (hP _ _ _ _ _ _).mp k H locs lsB ⟨by rw [← hl]; simp [hlen], _, hB, by rw [← hl]; exact hasL.f1 q1 q2 (by omega) hok⟩ h2 h3 h4)
theorem k_aload (hR : Bk G K0 n cc own nL d CE SE ini P) {kk : Fin 4} (i : Nat) {x : Nat} (hi : (kk : Nat) = i) (hl : ls[i]? = some (some (.ref x))) (hd : decode cc pc = .ok (.aload_n kk, 1)) (k : P a b (pc + 1) ls (.ref x :: st) L) : P a b pc ls st L := by
  obtain ⟨p, l, e, R, s, m, args, below, meth, c, QQ, hx, hb, hml, hown, hts, hroom, hS0, hini, hn, hgs, hP⟩ := hR
  exact (hP _ _ _ _ _ _).mpr fun H locs lsA h1 h2 h3 h4 => lv_aload_n hx hb hd hi (h1.at hl) ((hP _ _ _ _ _ _).mp k H locs lsA h1 h2 h3 h4)
theorem k_astore (hR : Bk G K0 n cc own nL d CE SE ini P) {kk : Fin 4} (i : Nat) {x : Nat} (ls' : List (Option Value)) (hi : (kk : Nat) = i) (hn' : i < ls.length) (hok : okSt ls i) (hl : ls.set i (some (.ref x)) = ls') (hd : decode cc pc = .ok (.astore_n kk, 1)) (k : P a b (pc + 1) ls' st L) : P a b pc ls (.ref x :: st) L := by
  obtain ⟨p, l, e, R, s, m, args, below, meth, c, QQ, hx, hb, hml, hown, hts, hroom, hS0, hini, hn, hgs, hP⟩ := hR
  refine (hP _ _ _ _ _ _).mpr fun H locs lsA h1 h2 h3 h4 => ?_
  obtain ⟨hlen, lv, q1, q2⟩ := h1
  exact lv_astore_n hx hb hd hi q1 (by omega) rfl (fun lsB hB => (hP _ _ _ _ _ _).mp k H locs lsB ⟨by rw [← hl]; simp [hlen], _, hB, by rw [← hl]; exact hasL.f1 q1 q2 (by omega) hok⟩ h2 h3 h4)
theorem k_iinc (hR : Bk G K0 n cc own nL d CE SE ini P) {i : Nat} {z : Int} {x : Int32} (v : Int32) (ls' : List (Option Value)) (hn' : i < ls.length) (hok : okSt ls i) (hx0 : ls[i]? = some (some (.int x))) (hv : Int32.ofInt z = v) (hl : ls.set i (some (.int (x + v))) = ls') (hd : decode cc pc = .ok (.iinc i z, 3)) (k : P a b (pc + 3) ls' st L) : P a b pc ls st L := by
  obtain ⟨p, l, e, R, s, m, args, below, meth, c, QQ, hx, hb, hml, hown, hts, hroom, hS0, hini, hn, hgs, hP⟩ := hR
  refine (hP _ _ _ _ _ _).mpr fun H locs lsA h1 h2 h3 h4 => ?_
  obtain ⟨hlen, lv, q1, q2⟩ := h1
  obtain ⟨kk, hkk⟩ := List.getElem?_of_mem (q2 i _ hx0)
  exact lv_iinc hx hb hd q1 hkk (by rw [hv]) (by omega) rfl (fun lsB hB => (hP _ _ _ _ _ _).mp k H locs lsB ⟨by rw [← hl]; simp [hlen], _, hB, by rw [← hl]; exact hasL.f1 q1 q2 (by omega) hok⟩ h2 h3 h4)
theorem k_mem (L2 : List va_E) (h : L = L2) (k : P a b pc ls st L2) : P a b pc ls st L := by rw [h]; exact k
theorem k_get (hR : Bk G K0 n cc own nL d CE SE ini P) {idx ci k : Nat} {fs : List Value} {v : Value} (j : Nat) (hj : L[j]? = some (.inr (ci, fs))) (hf : FLd own idx ci k) (hv : fs[k]? = some v) (hd : decode cc pc = .ok (.getfield idx, 3)) (kk : P a b (pc + 3) ls (v :: st) L) : P a b pc ls (.ref (gb G + (n + j)) :: st) L := by
  obtain ⟨p, l, e, R, s, m, args, below, meth, c, QQ, hx, hb, hml, hown, hts, hroom, hS0, hini, hn, hgs, hP⟩ := hR
  obtain ⟨C, T, N, hc, hk, hl, hin⟩ := hf
  exact (hP _ _ _ _ _ _).mpr fun H locs lsA h1 h2 h3 h4 => va_get (ws := kW G (K0 ++ L)) hx hb hts hin hown hS0.1 h2.1 (n + j) (by rw [kW_get, List.getElem?_append_right (by omega), hn, Nat.add_sub_cancel_left, hj]; rfl) hc k hk (hts _ hl) (fun _ h => h) hv hd ((hP _ _ _ _ _ _).mp kk H locs lsA h1 h2 h3 h4)
theorem kW_at {j : Nat} {e : va_E} (hn : K0.length = n) (hj : L[j]? = some e) : (kW G (K0 ++ L))[n + j]? = some (gb G + (n + j), e) := by
  rw [kW_get, List.getElem?_append_right (by omega), hn, Nat.add_sub_cancel_left, hj]
  rfl
theorem kW_st {j : Nat} {e : va_E} (hn : K0.length = n) : (kW G (K0 ++ L)).set (n + j) (gb G + (n + j), e) = kW G (K0 ++ L.set j e) := by
  rw [kW_set, List.set_append, if_neg (by omega), hn, Nat.add_sub_cancel_left]
def FFd (own : String) (idx ci k : Nat) (ty : FieldType) : Prop := ∃ (T : u_T) (N : Nat) (ty0 : Nat → FieldType), vwCl[ci]? = some (own, T, N) ∧ k < N ∧ Cond.fieldLink own idx (T k).1 (T k).2.1 (T k).2.2.1 ∈ GT ∧ (∀ w ∈ u_ws own T N, w ∈ GT) ∧ (∀ k, k < N → parseFieldDescriptor (T k).2.2.1 = some (ty0 k)) ∧ (∀ a, a < N → ∀ b, b < N → a ≠ b → (T a).2.1 ≠ (T b).2.1) ∧ (T k).2.2.2 = true ∧ (T k).1 = own ∧ ty0 k = ty
theorem k_put (hR : Bk G K0 n cc own nL d CE SE ini P) {idx ci k : Nat} {ty : FieldType} {fs : List Value} {v : Value} (j : Nat) (L2 : List va_E) (hj : L[j]? = some (.inr (ci, fs))) (hf : FPd own idx ci k ty) (hnw : narrow ty v = v) (hfit : fits ty v = true) (hl : k < fs.length) (hL : L.set j (.inr (ci, fs.set k v)) = L2) (hd : decode cc pc = .ok (.putfield idx, 3)) (kk : P a b (pc + 3) ls st L2) : P a b pc ls (v :: .ref (gb G + (n + j)) :: st) L := by
  obtain ⟨p, l, e, R, s, m, args, below, meth, c, QQ, hx, hb, hml, hown, hts, hroom, hS0, hini, hn, hgs, hP⟩ := hR
  obtain ⟨C, T, N, ty0, hc, hk, hlk, hin, hty, hnm, hfin, hty0⟩ := hf
  subst hL
  have hlj : j < L.length := (List.getElem?_eq_some_iff.mp hj).1
  refine (hP _ _ _ _ _ _).mpr fun H locs lsA h1 h2 h3 h4 => va_put (ws := kW G (K0 ++ L)) (A := fK G) hx hb hts hin ty0 hty hnm hown hS0.1 h2.1 (kW_D G _) h3 (n + j) (kW_at hn hj) hc k hk (hts _ hlk) (fun _ h => h) hfin (by rw [hty k hk, hty0]) hnw hfit hl hd (fun H1 locs1 g1 g2 g3 => ?_)
  rw [kW_st hn] at g1
  have hz := h2.2
  have hf := kW_far g1 (by rw [List.length_append, List.length_set]; omega)
  rw [List.length_append] at hz
  rw [List.length_append, List.length_set] at hf
  refine W_size (by omega) (fun hw => (hP _ _ _ _ _ _).mp kk H1 locs1 lsA h1 ⟨g1, ?_⟩ g3 hw)
  rw [List.length_append, List.length_set]
  omega
theorem k_putF (hR : Bk G K0 n cc own nL d CE SE true P) {idx ci k : Nat} {ty : FieldType} {fs : List Value} {v : Value} (j : Nat) (L2 : List va_E) (hj : L[j]? = some (.inr (ci, fs))) (hf : FFd own idx ci k ty) (hnw : narrow ty v = v) (hfit : fits ty v = true) (hl : k < fs.length) (hL : L.set j (.inr (ci, fs.set k v)) = L2) (hd : decode cc pc = .ok (.putfield idx, 3)) (kk : P a b (pc + 3) ls st L2) : P a b pc ls (v :: .ref (gb G + (n + j)) :: st) L := by
  obtain ⟨p, l, e, R, s, m, args, below, meth, c, QQ, hx, hb, hml, hown, hts, hroom, hS0, hini, hn, hgs, hP⟩ := hR
  obtain ⟨T, N, ty0, hc, hk, hlk, hin, hty, hnm, hfin, hdec, hty0⟩ := hf
  subst hL
  have hlj : j < L.length := (List.getElem?_eq_some_iff.mp hj).1
  refine (hP _ _ _ _ _ _).mpr fun H locs lsA h1 h2 h3 h4 => va_putF (ws := kW G (K0 ++ L)) (A := fK G) hx hb hts hin ty0 hty hnm hown hS0.1 h2.1 (kW_D G _) h3 (n + j) (kW_at hn hj) hc k hk (hts _ hlk) (fun _ h => h) hfin (hini rfl) hdec (by rw [hty k hk, hty0]) hnw hfit hl hd (fun H1 locs1 g1 g2 g3 => ?_)
  rw [kW_st hn] at g1
  have hz := h2.2
  have hf := kW_far g1 (by rw [List.length_append, List.length_set]; omega)
  rw [List.length_append] at hz
  rw [List.length_append, List.length_set] at hf
  refine W_size (by omega) (fun hw => (hP _ _ _ _ _ _).mp kk H1 locs1 lsA h1 ⟨g1, ?_⟩ g3 hw)
  rw [List.length_append, List.length_set]
  omega
theorem k_iast (hR : Bk G K0 n cc own nL d CE SE ini P) {N i : Nat} {f : Nat → Int32} {x v : Int32} (j : Nat) (L2 : List va_E) (hj : L[j]? = some (.inl (gcI G, N, .inl f))) (hx0 : x = nI i) (hi : i < N) (hN : N < 2 ^ 31) (hL : L.set j (.inl (gcI G, N, .inl (upd f i v))) = L2) (hd : decode cc pc = .ok (.iastore, 1)) (kk : P a b (pc + 1) ls st L2) : P a b pc ls (.int v :: .int x :: .ref (gb G + (n + j)) :: st) L := by
  obtain ⟨p, l, e, R, s, m, args, below, meth, c, QQ, hx, hb, hml, hown, hts, hroom, hS0, hini, hn, hgs, hP⟩ := hR
  subst hL
  have hlj : j < L.length := (List.getElem?_eq_some_iff.mp hj).1
  obtain ⟨z1, z2⟩ := vpN hx0 hi hN
  refine (hP _ _ _ _ _ _).mpr fun H locs lsA h1 h2 h3 h4 => va_iast (ws := kW G (K0 ++ L)) (A := fK G) hx hb hS0.1 h2.1 (kW_D G _) h3 (n + j) 0 (kW_at hn hj) rfl z1 hd (fun H1 locs1 g1 g2 g3 => ?_)
  rw [z2, kW_st hn] at g1
  have hz := h2.2
  have hf := kW_far g1 (by rw [List.length_append, List.length_set]; omega)
  rw [List.length_append] at hz
  rw [List.length_append, List.length_set] at hf
  refine W_size (by omega) (fun hw => (hP _ _ _ _ _ _).mp kk H1 locs1 lsA h1 ⟨g1, ?_⟩ g3 hw)
  rw [List.length_append, List.length_set]
  omega
theorem k_aast (hR : Bk G K0 n cc own nL d CE SE ini P) {N i ci t0 : Nat} {cA : ClassId} {r : vw_C} {f : Nat → Option Nat} {vs : List Value} {x : Int32} (j jv : Nat) (L2 : List va_E) (hj : L[j]? = some (.inl (cA, rfA N f))) (hjv : L[jv]? = some (.inr (ci, vs))) (ht : (gtys G)[t0]? = some (cA, .object r.1)) (hr : vwCl[ci]? = some r) (hx0 : x = nI i) (hi : i < N) (hN : N < 2 ^ 31) (hL : L.set j (.inl (cA, rfA N (va_up f i (some (gb G + (n + jv)))))) = L2) (hd : decode cc pc = .ok (.aastore, 1)) (kk : P a b (pc + 1) ls st L2) : P a b pc ls (.ref (gb G + (n + jv)) :: .int x :: .ref (gb G + (n + j)) :: st) L := by
  obtain ⟨p, l, e, R, s, m, args, below, meth, c, QQ, hx, hb, hml, hown, hts, hroom, hS0, hini, hn, hgs, hP⟩ := hR
  subst hL
  have hlj : j < L.length := (List.getElem?_eq_some_iff.mp hj).1
  obtain ⟨z1, z2⟩ := vpN hx0 hi hN
  refine (hP _ _ _ _ _ _).mpr fun H locs lsA h1 h2 h3 h4 => va_astq (ws := kW G (K0 ++ L)) (A := fK G) hx hb hS0.1 h2.1 (kW_D G _) h3 (n + j) t0 (n + jv) ci (kW_at hn hj) ht (kW_at hn hjv) hr z1 hd (fun H1 locs1 g1 g2 g3 => ?_)
  rw [z2, kW_st hn] at g1
  have hz := h2.2
  have hf := kW_far g1 (by rw [List.length_append, List.length_set]; omega)
  rw [List.length_append] at hz
  rw [List.length_append, List.length_set] at hf
  refine W_size (by omega) (fun hw => (hP _ _ _ _ _ _).mp kk H1 locs1 lsA h1 ⟨g1, ?_⟩ g3 hw)
  rw [List.length_append, List.length_set]
  omega
/-- a cell more: where it lies, how large the heap is -/
theorem k_more {H1 : Heap} {q : Nat} {e : va_E} {K : List va_E} (g1 : va_P (gD G) vwCl (kW G K ++ [(q, e)]) H1) (g2 : va_D (fK G) (kW G K ++ [(q, e)])) : gb G + K.length ≤ q ∧ q < H1.size := by
  have hat : (kW G K ++ [(q, e)])[K.length]? = some (q, e) := by rw [List.getElem?_append_right (by rw [kW_len]; exact Nat.le_refl _), kW_len, Nat.sub_self]; rfl
  have h1 : gb G ≤ q := g2.2 _ _ hat
  have h2 : q < H1.size := (g1 _ _ hat).lt
  refine ⟨?_, h2⟩
  by_cases hlt : q < gb G + K.length
  · exfalso
    have hk : K[q - gb G]? = some (K[q - gb G]'(by omega)) := List.getElem?_eq_getElem (by omega)
    have hat2 : (kW G K ++ [(q, e)])[q - gb G]? = some (gb G + (q - gb G), K[q - gb G]'(by omega)) := by
      rw [List.getElem?_append_left (by rw [kW_len]; omega), kW_get, hk]
      rfl
    have := g2.1 _ _ _ _ hat2 hat (by show gb G + (q - gb G) = q; omega)
    omega
  · omega
theorem k_grow (hR : Bk G K0 n cc own nL d CE SE ini P) (hP' : True) {e : va_E} (j : Nat) (hj : L.length = j) {p : Program} {l : Launch} {e0 : Env} {R : Room} {s : State} {m : MethodId} {args : Array Value} {below : List Frame} {meth : Method} {c : Code} {QQ : State → Prop} {pc' N : Nat} (hn : K0.length = n)
    (hP : ∀ a b pc ls st L, P a b pc ls st L ↔ ∀ (H : Heap) (locs : List Loc) (lsA : Array Slot), hasL lsA nL ls → gK G (K0 ++ L) H → va_S (fK G) s.heap H locs → s.heap.size + a = H.size → W p l e0 R s m args below meth c H locs a b QQ (F0 m pc lsA st))
    (k : P (a + 1) (b + N) pc' ls (.ref (gb G + (n + j)) :: st) (L ++ [e])) {H H1 : Heap} {locs : List Loc} {lsA : Array Slot} (h1 : hasL lsA nL ls) (h2 : gK G (K0 ++ L) H) (h4 : s.heap.size + a = H.size) {q : Nat} (g1 : va_P (gD G) vwCl (kW G (K0 ++ L) ++ [(q, e)]) H1) (g2 : va_D (fK G) (kW G (K0 ++ L) ++ [(q, e)])) (g3 : va_S (fK G) s.heap H1 locs) : W p l e0 R s m args below meth c H1 locs (a + 1) (b + N) QQ (F0 m pc' lsA (.ref q :: st)) := by
  obtain ⟨z1, z2⟩ := k_more g1 g2
  have hz := h2.2
  refine W_size (by omega) (fun hw => ?_)
  have hq : q = gb G + (K0 ++ L).length := by omega
  subst hq
  rw [kW_app, List.append_assoc] at g1
  have := (hP _ _ _ _ _ _).mp k H1 locs lsA h1 ⟨g1, by rw [← List.append_assoc, List.length_append]; show H1.size = gb G + ((K0 ++ L).length + 1); omega⟩ g3 hw
  rw [show gb G + (K0 ++ L).length = gb G + (n + j) by rw [List.length_append, hn, hj]]
  exact this
def KN (own : String) (idx : Nat) (C : String) (T : u_T) (N ci : Nat) (ty : Nat → FieldType) (fs : List Value) : Prop := Cond.classLink own idx C ∈ GT ∧ Cond.instantiable C N ∈ GT ∧ Cond.initialized C ∈ GT ∧ (∀ w ∈ u_ws C T N, w ∈ GT) ∧ (∀ k, k < N → parseFieldDescriptor (T k).2.2.1 = some (ty k)) ∧ vwCl[ci]? = some (C, T, N) ∧ ∀ j, j < N → defaultValue (ty j) = vp_V fs j
theorem k_new (hR : Bk G K0 n cc own nL d CE SE ini P) {C : String} {T : u_T} {N ci idx : Nat} {ty : Nat → FieldType} {fs : List Value} (j : Nat) (hN : KN own idx C T N ci ty fs) (hj : L.length = j) (hc : a + 1 ≤ CE) (hs : b + N ≤ SE) (hd : decode cc pc = .ok (.new idx, 3)) (k : P (a + 1) (b + N) (pc + 3) ls (.ref (gb G + (n + j)) :: st) (L ++ [.inr (ci, fs)])) : P a b pc ls st L := by
  have hR0 := hR
  obtain ⟨p, l, e, R, s, m, args, below, meth, c, QQ, hx, hb, hml, hown, hts, hroom, hS0, hini, hn, hgs, hP⟩ := hR
  obtain ⟨n3, n4, n5, n1, n2, n6, n7⟩ := hN
  exact (hP _ _ _ _ _ _).mpr fun H locs lsA h1 h2 h3 h4 => va_new (ws := kW G (K0 ++ L)) (A := fK G) hx hb hts n1 ty n2 hown (hts _ n3) (hts _ n4) (hts _ n5) hS0.1 h2.1 (kW_D G _) h3 (fun q hq => Nat.le_trans hgs hq) n6 n7 (by omega) (by omega) hd (fun q H1 g1 g2 g3 => k_grow hR0 trivial j hj hn hP k h1 h2 h4 g1 g2 g3)
theorem k_newi (hR : Bk G K0 n cc own nL d CE SE ini P) {x : Int32} {N : Nat} (j : Nat) (hj : L.length = j) (hx0 : x = nI N) (hN : N < 100000) (hc : a + 1 ≤ CE) (hs : b + N ≤ SE) (hd : decode cc pc = .ok (.newarray .int, 2)) (k : P (a + 1) (b + N) (pc + 2) ls (.ref (gb G + (n + j)) :: st) (L ++ [.inl (gcI G, N, .inl (fun _ => 0))])) : P a b pc ls (.int x :: st) L := by
  have hR0 := hR
  obtain ⟨p, l, e, R, s, m, args, below, meth, c, QQ, hx, hb, hml, hown, hts, hroom, hS0, hini, hn, hgs, hP⟩ := hR
  subst hx0
  refine (hP _ _ _ _ _ _).mpr fun H locs lsA h1 h2 h3 h4 => va_newa (atype := .int) (ty := .int) (ws := kW G (K0 ++ L)) (A := fK G) (a0 := (N, .inl (fun _ => 0))) hx hb (hts _ wI_arr) rfl hS0.1 h2.1 (kW_D G _) h3 (fun q hq => Nat.le_trans hgs hq) (fun _ => rfl) (nI_pos (by omega)) (nI_clamp (by omega)) (by show N * 4 ≤ 536870912; omega) (by omega) (by omega) hd (fun q cA H1 gK' g1 g2 g3 => ?_)
  have e1 : s.vm.findClass ("[" ++ FieldType.int.toString) = some cA := (gK'.2 4 _ rfl).2
  have e2 : s.vm.findClass ("[" ++ FieldType.int.toString) = some (gcI G) := (hS0.1.2 0 _ rfl).2
  have e3 : cA = gcI G := Option.some.inj (e1.symm.trans e2)
  subst e3
  exact k_grow hR0 trivial j hj hn hP k h1 h2 h4 g1 g2 g3
theorem k_newl (hR : Bk G K0 n cc own nL d CE SE ini P) {x : Int32} {N : Nat} (j : Nat) (hj : L.length = j) (hx0 : x = nI N) (hN : N < 100000) (hc : a + 1 ≤ CE) (hs : b + N ≤ SE) (hd : decode cc pc = .ok (.newarray .long, 2)) (k : P (a + 1) (b + N) (pc + 2) ls (.ref (gb G + (n + j)) :: st) (L ++ [.inl (gcL G, N, .inr (.inl (fun _ => 0)))])) : P a b pc ls (.int x :: st) L := by
  have hR0 := hR
  obtain ⟨p, l, e, R, s, m, args, below, meth, c, QQ, hx, hb, hml, hown, hts, hroom, hS0, hini, hn, hgs, hP⟩ := hR
  subst hx0
  refine (hP _ _ _ _ _ _).mpr fun H locs lsA h1 h2 h3 h4 => va_newa (atype := .long) (ty := .long) (ws := kW G (K0 ++ L)) (A := fK G) (a0 := (N, .inr (.inl (fun _ => 0)))) hx hb (hts _ wL_arr) rfl hS0.1 h2.1 (kW_D G _) h3 (fun q hq => Nat.le_trans hgs hq) (fun _ => rfl) (nI_pos (by omega)) (nI_clamp (by omega)) (by show N * 8 ≤ 536870912; omega) (by omega) (by omega) hd (fun q cA H1 gK' g1 g2 g3 => ?_)
  have e1 : s.vm.findClass ("[" ++ FieldType.long.toString) = some cA := (gK'.2 4 _ rfl).2
  have e2 : s.vm.findClass ("[" ++ FieldType.long.toString) = some (gcL G) := (hS0.1.2 1 _ rfl).2
  have e3 : cA = gcL G := Option.some.inj (e1.symm.trans e2)
  subst e3
  exact k_grow hR0 trivial j hj hn hP k h1 h2 h4 g1 g2 g3
theorem k_newq (hR : Bk G K0 n cc own nL d CE SE ini P) {C : String} {cR : ClassId} {idx t0 : Nat} {x : Int32} {N : Nat} (j : Nat) (hC : Cond.classLink own idx C ∈ GT) (hov : ∀ U, kS G U → va_AO C U) (ht : (gtys G)[t0]? = some (cR, .object C)) (hj : L.length = j) (hx0 : x = nI N) (hN : N < 100000) (hc : a + 1 ≤ CE) (hs : b + N ≤ SE) (hd : decode cc pc = .ok (.anewarray idx, 3)) (k : P (a + 1) (b + N) (pc + 3) ls (.ref (gb G + (n + j)) :: st) (L ++ [.inl (cR, rfA N (fun _ => none))])) : P a b pc ls (.int x :: st) L := by
  have hR0 := hR
  obtain ⟨p, l, e, R, s, m, args, below, meth, c, QQ, hx, hb, hml, hown, hts, hroom, hS0, hini, hn, hgs, hP⟩ := hR
  subst hx0
  refine (hP _ _ _ _ _ _).mpr fun H locs lsA h1 h2 h3 h4 => va_newq (ws := kW G (K0 ++ L)) (A := fK G) hx hb hown (hts _ hC) (hov _ hS0) hS0.1 h2.1 (kW_D G _) h3 (fun q hq => Nat.le_trans hgs hq) (nI_pos (by omega)) (nI_clamp (by omega)) (by omega) (by omega) (by omega) hd (fun q cA H1 gK' g1 g2 g3 => ?_)
  obtain ⟨-, -, -, -, -, e1⟩ := (gK'.2 4 _ rfl).2
  obtain ⟨-, -, -, -, -, e2⟩ := (hS0.1.2 t0 _ ht).2
  have e3 : cA = cR := Option.some.inj (e1.symm.trans e2)
  subst e3
  exact k_grow hR0 trivial j hj hn hP k h1 h2 h4 g1 g2 g3
theorem k_obj (hR : Bk G K0 n cc own nL d CE SE ini P) {idx x : Nat} (hl : Cond.methodLink own idx Lib.objectInit ∈ GT) (hdd : 1 ≤ d) (hcat : (st.map fun v => v.category).sum ≤ 8) (hd : decode cc pc = .ok (.invokespecial idx, 3)) (k : P a b (pc + 3) ls st L) : P a b pc ls (.ref x :: st) L := by
  obtain ⟨p, l, e, R, s, m, args, below, meth, c, QQ, hx, hb, hml, hown, hts, hroom, hS0, hini, hn, hgs, hP⟩ := hR
  obtain ⟨ro1, ro2, ro3, ro4⟩ := hroom
  exact (hP _ _ _ _ _ _).mpr fun H locs lsA h1 h2 h3 h4 => W.objInit hx hb hown (hts _ hl) (hts _ wO_ins) (hts _ wO_cod) rfl (by obtain ⟨-, lv, q, -⟩ := h1; rw [hml]; exact q.1) rfl hd (by omega) (by show 2 * 0 + _ + 12 ≤ R.locals; omega) ((hP _ _ _ _ _ _).mp k H locs lsA h1 h2 h3 h4)
theorem k_run {p : Program} {l : Launch} {e : Env} {R : Room} {s : State} {m : MethodId} {args : Array Value} {below : List Frame} {meth : Method} {c : Code} {H : Heap} {locs : List Loc} {mc ms : Nat} {QQ : State → Prop} {lsA : Array Slot} {st0 : List Value} {K' : List va_E}
    (hr : va_Run p l e R s m args below meth c H locs a b mc ms (F0 m pc lsA st0) st (fun st oc t => oc = .returned none ∧ gK G K' t.heap ∧ va_F (fK G) st t) (fK G)) (hS : va_S (fK G) s.heap H locs)
    (kk : ∀ (H1 : Heap) (locs1 : List Loc), gK G K' H1 → va_S (fK G) s.heap H1 locs1 → W p l e R s m args below meth c H1 locs1 (a + mc) (b + ms) QQ (F0 m (pc + 3) lsA st)) : W p l e R s m args below meth c H locs a b QQ (F0 m pc lsA st0) := by
  intro T hT X
  obtain ⟨v, st₀, t, T', L, h0, X', hL, e1, e2, ⟨hv, hg, hF⟩, hgo⟩ := hr T hT X
  cases hv
  obtain ⟨hz, hk⟩ := hF
  rw [h0] at hz hk
  obtain ⟨t2, a1, b1⟩ := kk T'.heap (locs ++ L) (by rw [e1]; exact hg)
    ⟨Nat.le_trans hS.1 (by rw [e1]; exact hz), fun q h1 h2 => by rw [e1, hk q (Nat.lt_of_lt_of_le h1 hS.1) h2]; exact hS.2.1 q h1 h2, fun q hq => by
      rcases List.mem_append.mp hq with h | h
      · exact hS.2.2 q h
      · exact hL q h⟩ T' rfl X'
  exact ⟨t2, hgo t2 a1, b1⟩
theorem k_pre {vs : List Value} {s : State} {H : Heap} {K : List va_E} (hS0 : kS G s) (h2 : gK G K H) :
    FrameBlind (va_Pc vs (fun U => kS G U ∧ gK G K U.heap)) ∧ ∀ U : State, U.heap = H → s.WarmedH U.vm → va_Pc vs (fun U => kS G U ∧ gK G K U.heap) vs.toArray U :=
  ⟨fun a U g mk q => ⟨q.1, kS.same (u := U) rfl q.2.1, q.2.2⟩, fun U hU hW => ⟨rfl, hS0.warm hW, by rw [hU]; exact h2⟩⟩
def KI (own : String) (idx : Nat) (Y : gY) (nP : Nat) : Prop := KC Y nP ∧ Cond.methodLink own idx Y.1 ∈ GT ∧ Y.1.name = "<init>" ∧ Cond.instanceMethod Y.1 ∈ GT ∧ Y.2.2.2 = none
def KJ (Y : gY) (nP : Nat) : Prop := KC Y nP ∧ Y.1.name = "<init>" ∧ Cond.instanceMethod Y.1 ∈ GT ∧ Y.2.2.2 = none
theorem k_call (hR : Bk G K0 n cc own nL d CE SE ini P) {Y : gY} {idx nP dc mc ms : Nat} {As st0 : List Value} {Ln : List va_E} {e1 : va_E} (j : Nat) (hK : KI own idx Y nP) (hdc : dc + 1 ≤ d) (hlen : As.length = nP) (hC : Ck G Y dc mc ms (.ref (gb G + (n + j)) :: As) ((K0 ++ L) ++ [e1]) ((K0 ++ L) ++ Ln)) (hmc : Ln.length = mc + 1) (ha : a + mc ≤ CE) (hb' : b + ms ≤ SE) (hst : st0 = As.reverse ++ .ref (gb G + (n + j)) :: st) (hcat : (st.map fun v => v.category).sum ≤ 8) (hd : decode cc pc = .ok (.invokespecial idx, 3)) (kk : P (a + mc) (b + ms) (pc + 3) ls st (L ++ Ln)) : P a b pc ls st0 (L ++ [e1]) := by
  obtain ⟨p, l, e, R, s, m, args, below, meth, c, QQ, hx, hb, hml, hown, hts, hroom, hS0, hini, hn, hgs, hP⟩ := hR
  obtain ⟨⟨k1, k2, k3, k4⟩, k5, k6, k7, k8⟩ := hK
  obtain ⟨ro1, ro2, ro3, ro4⟩ := hroom
  refine (hP _ _ _ _ _ _).mpr fun H locs lsA h1 h2 h3 h4 => ?_
  rw [← List.append_assoc] at h2
  have hb0 := callB_of (R := R) (rm := rmK dc mc ms) (mc := mc) (ms := ms) nP hts (good_wsY k2) rfl rfl rfl (hts _ k1) (hts _ k5) k3 ⟨Nat.le_trans (Nat.add_le_add_right (Nat.le_refl dc) 1) (Nat.le_trans hdc ro1), by show 8 + (Y.2.2.1 + 11) + 30 * dc ≤ R.locals; omega⟩
  rw [k8] at hb0
  have hp := k_pre (vs := .ref (gb G + (n + j)) :: As) hS0 h2
  refine k_run (va_runI (Ts := GT) ⟨hx, hb, hml, hown, hts⟩ (hC l) ⟨hb0, k6, hts _ k7⟩ hp rfl hlen (by obtain ⟨-, lv, q, -⟩ := h1; exact q.1) hst (by show 2 * 0 + _ ≤ 8; omega) hd ⟨by omega, by omega⟩) h3 (fun H1 locs1 q2 q3 => ?_)
  rw [List.append_assoc] at q2 h2
  have z1 := h2.2
  have z2 := q2.2
  rw [List.length_append, List.length_append] at z1 z2
  have z3 : ([e1] : List va_E).length = 1 := rfl
  exact (hP _ _ _ _ _ _).mp kk H1 locs1 lsA h1 q2 q3 (by omega)
theorem k_callN (hR : Bk G K0 n cc own nL d CE SE ini P) {Y : gY} {idx nP dc mc ms : Nat} {host : String} {As st0 : List Value} {Ln : List va_E} {e1 : va_E} (j : Nat) (hK : KJ Y nP) (hnw : ∀ U, kS G U → va_Nw (.methodLinkNest own idx Y.1 host) U) (hdc : dc + 1 ≤ d) (hlen : As.length = nP) (hC : Ck G Y dc mc ms (.ref (gb G + (n + j)) :: As) ((K0 ++ L) ++ [e1]) ((K0 ++ L) ++ Ln)) (hmc : Ln.length = mc + 1) (ha : a + mc ≤ CE) (hb' : b + ms ≤ SE) (hst : st0 = As.reverse ++ .ref (gb G + (n + j)) :: st) (hcat : (st.map fun v => v.category).sum ≤ 8) (hd : decode cc pc = .ok (.invokespecial idx, 3)) (kk : P (a + mc) (b + ms) (pc + 3) ls st (L ++ Ln)) : P a b pc ls st0 (L ++ [e1]) := by
  obtain ⟨p, l, e, R, s, m, args, below, meth, c, QQ, hx, hb, hml, hown, hts, hroom, hS0, hini, hn, hgs, hP⟩ := hR
  obtain ⟨⟨k1, k2, k3, k4⟩, k6, k7, k8⟩ := hK
  obtain ⟨ro1, ro2, ro3, ro4⟩ := hroom
  refine (hP _ _ _ _ _ _).mpr fun H locs lsA h1 h2 h3 h4 => ?_
  rw [← List.append_assoc] at h2
  have hb0 := va_cnB (R := R) (rm := rmK dc mc ms) (mc := mc) (ms := ms) nP hts (good_wsY k2) rfl rfl rfl (hnw s hS0) (hts _ k1) k3 ⟨Nat.le_trans (Nat.add_le_add_right (Nat.le_refl dc) 1) (Nat.le_trans hdc ro1), by show 8 + (Y.2.2.1 + 11) + 30 * dc ≤ R.locals; omega⟩
  rw [k8] at hb0
  have hp := k_pre (vs := .ref (gb G + (n + j)) :: As) hS0 h2
  refine k_run (va_runIN (Ts := GT) ⟨hx, hb, hml, hown, hts⟩ (hC l) ⟨hb0, k6, hts _ k7⟩ hp rfl hlen (by obtain ⟨-, lv, q, -⟩ := h1; exact q.1) hst (by show 2 * 0 + _ ≤ 8; omega) hd ⟨by omega, by omega⟩) h3 (fun H1 locs1 q2 q3 => ?_)
  rw [List.append_assoc] at q2 h2
  have z1 := h2.2
  have z2 := q2.2
  rw [List.length_append, List.length_append] at z1 z2
  have z3 : ([e1] : List va_E).length = 1 := rfl
  exact (hP _ _ _ _ _ _).mp kk H1 locs1 lsA h1 q2 q3 (by omega)
end Rows
/-- a constructor's contract, out of the rows -/
theorem Ck.of {G : gG} {Y : gY} {dd mc ms n : Nat} {vs : List Value} {K0 L L2 : List va_E} (hn : K0.length = n) (hy : plainName Y.1.cls = true) (hi : Y.1.name = "<init>") (hv : Y.2.2.2 = none) {k : Nat} {ls0 : List (Option Value)} (h0 : entL vs ++ List.replicate k none = ls0) (hl : ls0.length = Y.2.2.1)
    (body : ∀ P : kP, Bk G K0 n Y.2.1 Y.1.cls Y.2.2.1 dd mc ms true P → (∀ (pc : Nat) (ls : List (Option Value)), decode Y.2.1 pc = .ok (.return_, 1) → P mc ms pc ls [] L2) → P 0 0 0 ls0 [] L) : Ck G Y dd mc ms vs (K0 ++ L) (K0 ++ L2) := by
  intro l
  refine Met.ofW (cc := Y.2.1) (maxL := Y.2.2.1) (ret := Y.2.2.2) hy rfl ?_
  intro p e s m args below meth c s₁ B hml hv'
  obtain ⟨rfl, hkS, hgK⟩ := hv'
  have hts := atoms_spec (ws := wsY Y) B.pre
  have hown : s.vm.findClass Y.1.cls = some m.cls := findClass_of_methodNamed B.named
  have hlocks := B.notSynchronized
  have hin : meth.name = Y.1.name := (name_of_methodNamed B.named B.method).1
  have hx := B.exec
  have hb := B.bytes
  have hr := B.returns
  rw [lg_entry_eq]
  have key := body (fun a b pc ls st L => ∀ (H : Heap) (locs : List Loc) (lsA : Array Slot), hasL lsA Y.2.2.1 ls → gK G (K0 ++ L) H → va_S (fK G) s.heap H locs → s.heap.size + a = H.size → W p l e (headSpec (wsY Y) (rmK dd mc ms)).room s m vs.toArray below meth c H locs a b (MQ below (fun _ st oc t => oc = .returned none ∧ gK G (K0 ++ L2) t.heap ∧ va_F (fK G) st t) vs.toArray s mc ms (fK G)) (F0 m pc lsA st))
    ⟨p, l, e, (headSpec (wsY Y) (rmK dd mc ms)).room, s, m, vs.toArray, below, meth, c, _, hx, hb, hml, hown, fun w hw => hts w (List.mem_cons_of_mem _ hw), ⟨Nat.le_refl dd, Nat.le_refl (30 * dd), Nat.le_refl mc, Nat.le_refl ms⟩, hkS, fun _ => hin.trans hi, hn, by rw [hgK.2]; exact Nat.le_add_right _ _, fun a b pc ls st L => Iff.rfl⟩ ?_
  · exact key s.heap [] _ (hasL_entry vs h0 hl) hgK va_S.rf rfl
  · intro pc ls hd H locs lsA h1 h2 h3 h4
    exact W.vret hx hb (by rw [hr]; exact hv) (fun t ht hW => ⟨rfl, by rw [ht]; exact h2, h3.F ht⟩) h3.2.2 hd
