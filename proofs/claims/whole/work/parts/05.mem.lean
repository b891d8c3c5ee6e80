/-! MEMORY ROWS AND CALLS -/
def FLd (own : String) (idx ci k : Nat) : Prop := ∃ (C : String) (T : u_T) (N : Nat), vwCl[ci]? = some (C, T, N) ∧ k < N ∧ Cond.fieldLink own idx (T k).1 (T k).2.1 (T k).2.2.1 ∈ GT ∧ ∀ w ∈ u_ws C T N, w ∈ GT
def FPd (own : String) (idx ci k : Nat) (ty : FieldType) : Prop := ∃ (C : String) (T : u_T) (N : Nat) (ty0 : Nat → FieldType), vwCl[ci]? = some (C, T, N) ∧ k < N ∧ Cond.fieldLink own idx (T k).1 (T k).2.1 (T k).2.2.1 ∈ GT ∧ (∀ w ∈ u_ws C T N, w ∈ GT) ∧ (∀ k, k < N → parseFieldDescriptor (T k).2.2.1 = some (ty0 k)) ∧ (∀ a, a < N → ∀ b, b < N → a ≠ b → (T a).2.1 ≠ (T b).2.1) ∧ (T k).2.2.2 = false ∧ ty0 k = ty
theorem vpN {x : Int32} {j n : Nat} (hx : x = nI j) (hj : j < n) (hn : n < 2 ^ 31) : vp_in x n ∧ x.toNatClampNeg = j := by
  subst hx
  exact ⟨vp_in_nI hj hn, nI_clamp (by omega)⟩
section Rows
variable {G : gG} {cc : ByteArray} {own : String} {nL d : Nat} {rt : Option FieldType} {Q : Option Value → gM → Prop} {P : gP} {pc : Nat} {ls : List (Option Value)} {st : List Value} {M : gM}
theorem r_get (hR : Bd G cc own nL d rt Q P) {r i idx ci k : Nat} {fs : List Value} {v : Value} (hi : i < gcnt r) (hf : FLd own idx ci k) (hE : Es G (M.1 r i) (M.2 r i) r i = .inr (ci, fs)) (hv : fs[k]? = some v) (hd : decode cc pc = .ok (.getfield idx, 3)) (kk : P (pc + 3) ls (v :: st) M) : P pc ls (.ref (ad G r i) :: st) M := by
  obtain ⟨p, l, e, R, s, m, args, below, meth, c, cells, slots, QQ, hx, hb, hml, hown, hts, hroom, hS0, hP, hret⟩ := hR
  obtain ⟨C, T, N, hc, hk, hl, hin⟩ := hf
  exact (hP _ _ _ _).mpr fun H locs lsA h1 h2 h3 => va_get (ws := gWl G M) hx hb hts hin hown hS0.1 h2 (goff r i) (by rw [gWl_at hi, hE]) hc k hk (hts _ hl) (fun _ h => h) hv hd ((hP _ _ _ _).mp kk H locs lsA h1 h2 h3)
theorem r_puti (hR : Bd G cc own nL d rt Q P) {r i idx ci k : Nat} {ty : FieldType} {fs : List Value} {x : Int32} (hi : i < gcnt r) (hf : FPd own idx ci k ty) (hE : Es G (M.1 r i) (M.2 r i) r i = .inr (ci, fs)) (hE2 : Es G (upd (M.1 r i) k x) (M.2 r i) r i = .inr (ci, fs.set k (.int x))) (hl : k < fs.length) (hn : narrow ty (.int x) = .int x) (hfit : fits ty (.int x) = true) (hd : decode cc pc = .ok (.putfield idx, 3)) (kk : P (pc + 3) ls st (seti M r i k x)) : P pc ls (.int x :: .ref (ad G r i) :: st) M := by
  obtain ⟨p, l, e, R, s, m, args, below, meth, c, cells, slots, QQ, hx, hb, hml, hown, hts, hroom, hS0, hP, hret⟩ := hR
  obtain ⟨C, T, N, ty0, hc, hk, hlk, hin, hty, hnm, hfin, hty0⟩ := hf
  refine (hP _ _ _ _).mpr fun H locs lsA h1 h2 h3 => va_put (ws := gWl G M) (A := fr G) hx hb hts hin ty0 hty hnm hown hS0.1 h2 (gWl_D G M) h3 (goff r i) (by rw [gWl_at hi, hE]) hc k hk (hts _ hlk) (fun _ h => h) hfin (by rw [hty k hk, hty0]) hn hfit hl hd (fun H1 locs1 g1 g2 g3 => ?_)
  rw [gWl_set (M' := seti M r i k x) hi (seti_o M r i k x) (by rw [seti_s]; exact hE2)] at g1
  exact (hP _ _ _ _).mp kk H1 locs1 lsA h1 g1 g3
theorem r_iald (hR : Bd G cc own nL d rt Q P) {r i n j : Nat} {x : Int32} (hi : i < gcnt r) (hE : Es G (M.1 r i) (M.2 r i) r i = .inl (gcI G, n, .inl (M.1 r i))) (hx0 : x = nI j) (hj : j < n) (hn : n < 2 ^ 31) (hd : decode cc pc = .ok (.iaload, 1)) (kk : P (pc + 1) ls (.int (M.1 r i j) :: st) M) : P pc ls (.int x :: .ref (ad G r i) :: st) M := by
  obtain ⟨p, l, e, R, s, m, args, below, meth, c, cells, slots, QQ, hx, hb, hml, hown, hts, hroom, hS0, hP, hret⟩ := hR
  obtain ⟨z1, z2⟩ := vpN hx0 hj hn
  refine (hP _ _ _ _).mpr fun H locs lsA h1 h2 h3 => va_iald (ws := gWl G M) hx hb hS0.1 h2 (goff r i) 0 (by rw [gWl_at hi, hE]) rfl z1 hd ?_
  rw [z2]
  exact (hP _ _ _ _).mp kk H locs lsA h1 h2 h3
theorem r_lald (hR : Bd G cc own nL d rt Q P) {r i n j : Nat} {x : Int32} (hi : i < gcnt r) (hE : Es G (M.1 r i) (M.2 r i) r i = .inl (gcL G, n, .inr (.inl (M.2 r i)))) (hx0 : x = nI j) (hj : j < n) (hn : n < 2 ^ 31) (hd : decode cc pc = .ok (.laload, 1)) (kk : P (pc + 1) ls (.long (M.2 r i j) :: st) M) : P pc ls (.int x :: .ref (ad G r i) :: st) M := by
  obtain ⟨p, l, e, R, s, m, args, below, meth, c, cells, slots, QQ, hx, hb, hml, hown, hts, hroom, hS0, hP, hret⟩ := hR
  obtain ⟨z1, z2⟩ := vpN hx0 hj hn
  refine (hP _ _ _ _).mpr fun H locs lsA h1 h2 h3 => va_lald (ws := gWl G M) hx hb hS0.1 h2 (goff r i) 1 (by rw [gWl_at hi, hE]) rfl z1 hd ?_
  rw [z2]
  exact (hP _ _ _ _).mp kk H locs lsA h1 h2 h3
theorem r_iast (hR : Bd G cc own nL d rt Q P) {r i n j : Nat} {x v : Int32} (hi : i < gcnt r) (hE : ∀ f, Es G f (M.2 r i) r i = .inl (gcI G, n, .inl f)) (hx0 : x = nI j) (hj : j < n) (hn : n < 2 ^ 31) (hd : decode cc pc = .ok (.iastore, 1)) (kk : P (pc + 1) ls st (seti M r i j v)) : P pc ls (.int v :: .int x :: .ref (ad G r i) :: st) M := by
  obtain ⟨p, l, e, R, s, m, args, below, meth, c, cells, slots, QQ, hx, hb, hml, hown, hts, hroom, hS0, hP, hret⟩ := hR
  obtain ⟨z1, z2⟩ := vpN hx0 hj hn
  refine (hP _ _ _ _).mpr fun H locs lsA h1 h2 h3 => va_iast (ws := gWl G M) (A := fr G) hx hb hS0.1 h2 (gWl_D G M) h3 (goff r i) 0 (by rw [gWl_at hi, hE]) rfl z1 hd (fun H1 locs1 g1 g2 g3 => ?_)
  rw [z2, gWl_set (M' := seti M r i j v) hi (seti_o M r i j v) (by rw [seti_s]; exact hE _)] at g1
  exact (hP _ _ _ _).mp kk H1 locs1 lsA h1 g1 g3
theorem r_last (hR : Bd G cc own nL d rt Q P) {r i n j : Nat} {x : Int32} {v : Int64} (hi : i < gcnt r) (hE : ∀ f, Es G (M.1 r i) f r i = .inl (gcL G, n, .inr (.inl f))) (hx0 : x = nI j) (hj : j < n) (hn : n < 2 ^ 31) (hd : decode cc pc = .ok (.lastore, 1)) (kk : P (pc + 1) ls st (setl M r i j v)) : P pc ls (.long v :: .int x :: .ref (ad G r i) :: st) M := by
  obtain ⟨p, l, e, R, s, m, args, below, meth, c, cells, slots, QQ, hx, hb, hml, hown, hts, hroom, hS0, hP, hret⟩ := hR
  obtain ⟨z1, z2⟩ := vpN hx0 hj hn
  refine (hP _ _ _ _).mpr fun H locs lsA h1 h2 h3 => va_last (ws := gWl G M) (A := fr G) hx hb hS0.1 h2 (gWl_D G M) h3 (goff r i) 1 (by rw [gWl_at hi, hE]) rfl z1 hd (fun H1 locs1 g1 g2 g3 => ?_)
  rw [z2, gWl_set (M' := setl M r i j v) hi (setl_o M r i j v) (by rw [setl_s]; exact hE _)] at g1
  exact (hP _ _ _ _).mp kk H1 locs1 lsA h1 g1 g3
theorem r_aald (hR : Bd G cc own nL d rt Q P) {r i n j a t0 : Nat} {cA : ClassId} {C : String} {f : Nat → Option Nat} {x : Int32} (hi : i < gcnt r) (hE : Es G (M.1 r i) (M.2 r i) r i = .inl (cA, rfA n f)) (ht : (gtys G)[t0]? = some (cA, .object C)) (hx0 : x = nI j) (hj : j < n) (hn : n < 2 ^ 31) (ha : f j = some a) (hd : decode cc pc = .ok (.aaload, 1)) (kk : P (pc + 1) ls (.ref a :: st) M) : P pc ls (.int x :: .ref (ad G r i) :: st) M := by
  obtain ⟨p, l, e, R, s, m, args, below, meth, c, cells, slots, QQ, hx, hb, hml, hown, hts, hroom, hS0, hP, hret⟩ := hR
  obtain ⟨z1, z2⟩ := vpN hx0 hj hn
  refine (hP _ _ _ _).mpr fun H locs lsA h1 h2 h3 => va_aldq (ws := gWl G M) hx hb hS0.1 h2 (goff r i) t0 (by rw [gWl_at hi, hE]) ht z1 hd ?_
  rw [z2, ha]
  exact (hP _ _ _ _).mp kk H locs lsA h1 h2 h3
theorem r_gets (hR : Bd G cc own nL d rt Q P) {idx : Nat} (k : Nat) (hk : k < 4) (hl : Cond.fieldLink own idx (sC k) (sN k) "[I" ∈ GT) (hd : decode cc pc = .ok (.getstatic idx, 3)) (kk : P (pc + 3) ls (.ref (gsa G k) :: st) M) : P pc ls st M := by
  obtain ⟨p, l, e, R, s, m, args, below, meth, c, cells, slots, QQ, hx, hb, hml, hown, hts, hroom, hS0, hP, hret⟩ := hR
  exact (hP _ _ _ _).mpr fun H locs lsA h1 h2 h3 => va_gets hx hb (hS0.2.1 k hk).1 h3 hown (hts _ hl) (fun _ h => h) hd ((hP _ _ _ _).mp kk H locs lsA h1 h2 h3)
theorem r_getsN (hR : Bd G cc RX5 nL d rt Q P) (hd : decode cc pc = .ok (.getstatic 55, 3)) (kk : P (pc + 3) ls (.ref (gsa G 2) :: st) M) : P pc ls st M := by
  obtain ⟨p, l, e, R, s, m, args, below, meth, c, cells, slots, QQ, hx, hb, hml, hown, hts, hroom, hS0, hP, hret⟩ := hR
  exact (hP _ _ _ _).mpr fun H locs lsA h1 h2 h3 => va_getsN (C := "WindRota") (n := "NEARER_WAY") (d := "[I") (ref := RX7) (host := RX7) hx hb (hS0.2.1 2 (by decide)).1 h3 hown (va_Nw.use rfl hS0.2.2.2.2.2.2.2) (fun _ h => h) hd ((hP _ _ _ _).mp kk H locs lsA h1 h2 h3)
theorem r_tald (hR : Bd G cc own nL d rt Q P) {j : Nat} {x : Int32} {k : Nat} (hk : k < 4) (hx0 : x = nI j) (hj : j < (sFl k).length) (hn : (sFl k).length < 2 ^ 31) (hd : decode cc pc = .ok (.iaload, 1)) (kk : P (pc + 1) ls (.int ((sFl k).getD j 0) :: st) M) : P pc ls (.int x :: .ref (gsa G k) :: st) M := by
  obtain ⟨p, l, e, R, s, m, args, below, meth, c, cells, slots, QQ, hx, hb, hml, hown, hts, hroom, hS0, hP, hret⟩ := hR
  obtain ⟨z1, z2⟩ := vpN hx0 hj hn
  exact (hP _ _ _ _).mpr fun H locs lsA h1 h2 h3 => va_ti hx hb (hS0.2.1 k hk).2 h3 z1 (by rw [z2]) hd ((hP _ _ _ _).mp kk H locs lsA h1 h2 h3)
theorem r_ldcS (hR : Bd G cc "WindRota$Teller" nL d rt Q P) (i : Nat) {ix : Nat} (hi : i < 12) (hix : kIx.getD i 0 = ix) (hd : decode cc pc = .ok (.ldc ix, 2)) (kk : P (pc + 2) ls (.ref (gks G i) :: st) M) : P pc ls st M := by
  obtain ⟨p, l, e, R, s, m, args, below, meth, c, cells, slots, QQ, hx, hb, hml, hown, hts, hroom, hS0, hP, hret⟩ := hR
  subst hix
  exact (hP _ _ _ _).mpr fun H locs lsA h1 h2 h3 => va_ldcS hx hb hown (hS0.2.2.2.2.1 i hi) hd ((hP _ _ _ _).mp kk H locs lsA h1 h2 h3)
theorem r_iret (hR : Bd G cc own nL d (some .int) Q P) {x : Int32} (hd : decode cc pc = .ok (.ireturn, 1)) (hq : Q (some (.int x)) M) : P pc ls [.int x] M := by
  obtain ⟨p, l, e, R, s, m, args, below, meth, c, cells, slots, QQ, hx, hb, hml, hown, hts, hroom, hS0, hP, hret⟩ := hR
  exact hret.1 pc ls x M .int rfl hd rfl hq
theorem r_zret (hR : Bd G cc own nL d (some .boolean) Q P) {x : Int32} (hd : decode cc pc = .ok (.ireturn, 1)) (hn : narrow .boolean (.int x) = .int x) (hq : Q (some (.int x)) M) : P pc ls [.int x] M := by
  obtain ⟨p, l, e, R, s, m, args, below, meth, c, cells, slots, QQ, hx, hb, hml, hown, hts, hroom, hS0, hP, hret⟩ := hR
  exact hret.1 pc ls x M .boolean rfl hd hn hq
theorem r_lret (hR : Bd G cc own nL d (some .long) Q P) {x : Int64} (hd : decode cc pc = .ok (.lreturn, 1)) (hq : Q (some (.long x)) M) : P pc ls [.long x] M := by
  obtain ⟨p, l, e, R, s, m, args, below, meth, c, cells, slots, QQ, hx, hb, hml, hown, hts, hroom, hS0, hP, hret⟩ := hR
  exact hret.2.1 pc ls x M rfl hd hq
theorem r_vret (hR : Bd G cc own nL d none Q P) (hd : decode cc pc = .ok (.return_, 1)) (hq : Q none M) : P pc ls [] M := by
  obtain ⟨p, l, e, R, s, m, args, below, meth, c, cells, slots, QQ, hx, hb, hml, hown, hts, hroom, hS0, hP, hret⟩ := hR
  exact hret.2.2 pc ls M rfl hd hq
/-- the value on top gets a name -/
theorem r_nm {x : Int32} (y : Int32) (h : x = y) (k : P pc ls (.int y :: st) M) : P pc ls (.int x :: st) M := by rw [h]; exact k
theorem r_nml {x : Int64} (y : Int64) (h : x = y) (k : P pc ls (.long y :: st) M) : P pc ls (.long x :: st) M := by rw [h]; exact k
theorem r_mem {M2 : gM} (h : M = M2) (k : P pc ls st M2) : P pc ls st M := by rw [h]; exact k
theorem r_ls {ls2 : List (Option Value)} (h : ls = ls2) (k : P pc ls2 st M) : P pc ls st M := by rw [h]; exact k
/-! calls -/
theorem g_run {p : Program} {l : Launch} {e : Env} {R : Room} {s : State} {m : MethodId} {args : Array Value} {below : List Frame} {meth : Method} {c : Code} {H : Heap} {locs : List Loc} {cells slots : Nat} {QQ : State → Prop} {lsA : Array Slot} {st0 : List Value} {Qc : Option Value → gM → Prop}
    (hr : va_Run p l e R s m args below meth c H locs cells slots 0 0 (F0 m pc lsA st0) st (fun st oc t => ∃ (v : Option Value) (M' : gM), oc = .returned v ∧ Qc v M' ∧ gH G M' t.heap ∧ va_F (fr G) st t) (fr G)) (hS : va_S (fr G) s.heap H locs)
    (kk : ∀ (v : Option Value) (M' : gM) (H1 : Heap) (locs1 : List Loc), Qc v M' → gH G M' H1 → va_S (fr G) s.heap H1 locs1 → W p l e R s m args below meth c H1 locs1 cells slots QQ (F0 m (pc + 3) lsA (v.toList ++ st))) : W p l e R s m args below meth c H locs cells slots QQ (F0 m pc lsA st0) := by
  intro T hT X
  obtain ⟨v, st₀, t, T', L, h0, X', hL, e1, e2, ⟨v', M', hv, hq, hg, hF⟩, hgo⟩ := hr T hT X
  cases hv
  obtain ⟨hz, hk⟩ := hF
  rw [h0] at hz hk
  obtain ⟨t2, a1, b1⟩ := kk v M' T'.heap (locs ++ L) hq (by rw [e1]; exact hg)
    ⟨Nat.le_trans hS.1 (by rw [e1]; exact hz), fun q h1 h2 => by rw [e1, hk q (Nat.lt_of_lt_of_le h1 hS.1) h2]; exact hS.2.1 q h1 h2, fun q hq => by
      rcases List.mem_append.mp hq with h | h
      · exact hS.2.2 q h
      · exact hL q h⟩ T' rfl X'
  exact ⟨t2, hgo t2 a1, b1⟩
def KC (Y : gY) (n : Nat) : Prop := Cond.initialized Y.1.cls ∈ GT ∧ Cond.code Y.1 Y.2.1 Y.2.2.1 Y.2.2.2 ∈ GT ∧ (Y.1.cls ≠ "java/lang/invoke/MethodHandle" ∧ Y.1.cls ≠ "java/lang/invoke/VarHandle" ∧ (parseMethodDescriptor Y.1.desc).map (fun d => d.parameters.length) = some n) ∧ Y.2.2.1 ≤ 11
def KV (own : String) (idx : Nat) (Y : gY) (n : Nat) : Prop := KC Y n ∧ Cond.methodLink own idx Y.1 ∈ GT ∧ Cond.instanceMethod Y.1 ∈ GT ∧ Cond.selects Y.1.cls Y.1 Y.1 ∈ GT
def KS (own : String) (idx : Nat) (Y : gY) (n : Nat) : Prop := KC Y n ∧ Cond.methodLink own idx Y.1 ∈ GT ∧ Cond.static Y.1 ∈ GT
theorem g_pre {Y : gY} {dc : Nat} {vs : List Value} {s : State} {H : Heap} {locs : List Loc} (hS0 : gS G s s.heap) (h2 : gH G M H) (h3 : va_S (fr G) s.heap H locs) :
    FrameBlind (va_Pc vs (fun U => gS G U U.heap ∧ gH G M U.heap)) ∧ ∀ U : State, U.heap = H → s.WarmedH U.vm → va_Pc vs (fun U => gS G U U.heap ∧ gH G M U.heap) vs.toArray U := by
  refine ⟨fun a U g mk q => ⟨q.1, gS.same (u := U) rfl q.2.1, q.2.2⟩, fun U hU hW => ⟨rfl, ?_, ?_⟩⟩
  · rw [hU]
    exact (hS0.kept (fun a ha hn => h3.2.1 a ha hn)).warm hW
  · rw [hU]; exact h2
theorem g_recv {s : State} {H : Heap} {r i ci : Nat} {fs : List Value} {C : String} (hS0 : gS G s s.heap) (h2 : gH G M H) (hi : i < gcnt r) (hE : Es G (M.1 r i) (M.2 r i) r i = .inr (ci, fs)) (hC : (vwCl[ci]?).map (fun q => q.1) = some C) : ∃ cell : Cell, H[ad G r i]? = some cell ∧ cell.vm.isStatics = false ∧ s.vm.findClass C = some cell.cls := by
  cases hq : vwCl[ci]? with
  | none => rw [hq] at hC; cases hC
  | some q =>
    rw [hq] at hC
    cases hC
    exact va_recv hS0.1 h2 (ci := ci) (q0 := goff r i) hq (by rw [gWl_at hi, hE])
theorem g_callV (hR : Bd G cc own nL d rt Q P) {Y : gY} {n idx dc b : Nat} {As st0 : List Value} {Qc : Option Value → gM → Prop} (hK : KV own idx Y n) (hdc : dc + 1 ≤ d) (hlen : As.length = n) (hC : Ct G Y dc (.ref b :: As) M Qc) (hrec : ∀ (s : State) (H : Heap) (locs : List Loc), gS G s s.heap → gH G M H → va_S (fr G) s.heap H locs → ∃ cell : Cell, H[b]? = some cell ∧ cell.vm.isStatics = false ∧ s.vm.findClass Y.1.cls = some cell.cls)
    (hst : st0 = As.reverse ++ .ref b :: st) (hcat : (st.map fun v => v.category).sum ≤ 8) (hd : decode cc pc = .ok (.invokevirtual idx, 3)) (kk : ∀ v M', Qc v M' → P (pc + 3) ls (v.toList ++ st) M') : P pc ls st0 M := by
  obtain ⟨p, l, e, R, s, m, args, below, meth, c, cells, slots, QQ, hx, hb, hml, hown, hts, hroom, hS0, hP, hret⟩ := hR
  obtain ⟨⟨k1, k2, k3, k4⟩, k5, k6, k7⟩ := hK
  obtain ⟨ro1, ro2, ro3, ro4⟩ := hroom
  refine (hP _ _ _ _).mpr fun H locs lsA h1 h2 h3 => ?_
  have hb0 := callB_of (R := R) (rm := rmD dc) (mc := 0) (ms := 0) n hts (good_wsY k2) rfl rfl rfl (hts _ k1) (hts _ k5) k3 ⟨Nat.le_trans hdc ro1, by show 8 + (Y.2.2.1 + 11) + 30 * dc ≤ R.locals; omega⟩
  have hp := g_pre (Y := Y) (dc := dc) (vs := .ref b :: As) hS0 h2 h3
  exact g_run (va_runV (Ts := GT) ⟨hx, hb, hml, hown, hts⟩ (hC l) ⟨hb0, hts _ k6, hts _ k7⟩ ⟨hp.1, hrec s H locs hS0 h2 h3, hp.2⟩ rfl hlen (by obtain ⟨-, lv, q, -⟩ := h1; exact q.1) hst (by show 2 * 0 + _ ≤ 8; omega) hd ⟨ro3, ro4⟩) h3 (fun v M' H1 locs1 q1 q2 q3 => (hP _ _ _ _).mp (kk v M' q1) H1 locs1 lsA h1 q2 q3)
theorem g_callS (hR : Bd G cc own nL d rt Q P) {Y : gY} {n idx dc : Nat} {As st0 : List Value} {Qc : Option Value → gM → Prop} (hK : KS own idx Y n) (hdc : dc + 1 ≤ d) (hlen : As.length = n) (hC : Ct G Y dc As M Qc)
    (hst : st0 = As.reverse ++ st) (hcat : (st.map fun v => v.category).sum ≤ 8) (hd : decode cc pc = .ok (.invokestatic idx, 3)) (kk : ∀ v M', Qc v M' → P (pc + 3) ls (v.toList ++ st) M') : P pc ls st0 M := by
  obtain ⟨p, l, e, R, s, m, args, below, meth, c, cells, slots, QQ, hx, hb, hml, hown, hts, hroom, hS0, hP, hret⟩ := hR
  obtain ⟨⟨k1, k2, k3, k4⟩, k5, k6⟩ := hK
  obtain ⟨ro1, ro2, ro3, ro4⟩ := hroom
  refine (hP _ _ _ _).mpr fun H locs lsA h1 h2 h3 => ?_
  have hb0 := callB_of (R := R) (rm := rmD dc) (mc := 0) (ms := 0) n hts (good_wsY k2) rfl rfl rfl (hts _ k1) (hts _ k5) k3 ⟨Nat.le_trans hdc ro1, by show 8 + (Y.2.2.1 + 11) + 30 * dc ≤ R.locals; omega⟩
  have hp := g_pre (Y := Y) (dc := dc) (vs := As) hS0 h2 h3
  exact g_run (va_runS (Ts := GT) ⟨hx, hb, hml, hown, hts⟩ (hC l) ⟨hb0, hts _ k6⟩ hp rfl hlen (by obtain ⟨-, lv, q, -⟩ := h1; exact q.1) hst (by show 2 * 0 + _ ≤ 8; omega) hd ⟨ro3, ro4⟩) h3 (fun v M' H1 locs1 q1 q2 q3 => (hP _ _ _ _).mp (kk v M' q1) H1 locs1 lsA h1 q2 q3)
/-- a static method of a nest mate -/
theorem g_callN (hR : Bd G cc own nL d rt Q P) {Y : gY} {n idx dc : Nat} {host : String} {As st0 : List Value} {Qc : Option Value → gM → Prop} (hK : KC Y n ∧ Cond.static Y.1 ∈ GT) (hnw : ∀ s : State, gS G s s.heap → va_Nw (.methodLinkNest own idx Y.1 host) s) (hdc : dc + 1 ≤ d) (hlen : As.length = n) (hC : Ct G Y dc As M Qc)
    (hst : st0 = As.reverse ++ st) (hcat : (st.map fun v => v.category).sum ≤ 8) (hd : decode cc pc = .ok (.invokestatic idx, 3)) (kk : ∀ v M', Qc v M' → P (pc + 3) ls (v.toList ++ st) M') : P pc ls st0 M := by
  obtain ⟨p, l, e, R, s, m, args, below, meth, c, cells, slots, QQ, hx, hb, hml, hown, hts, hroom, hS0, hP, hret⟩ := hR
  obtain ⟨⟨k1, k2, k3, k4⟩, k6⟩ := hK
  obtain ⟨ro1, ro2, ro3, ro4⟩ := hroom
  refine (hP _ _ _ _).mpr fun H locs lsA h1 h2 h3 => ?_
  have hb0 := va_cnB (R := R) (rm := rmD dc) (mc := 0) (ms := 0) n hts (good_wsY k2) rfl rfl rfl (hnw s hS0) (hts _ k1) k3 ⟨Nat.le_trans hdc ro1, by show 8 + (Y.2.2.1 + 11) + 30 * dc ≤ R.locals; omega⟩
  have hp := g_pre (Y := Y) (dc := dc) (vs := As) hS0 h2 h3
  exact g_run (va_runSN (Ts := GT) ⟨hx, hb, hml, hown, hts⟩ (hC l) ⟨hb0, hts _ k6, trivial⟩ hp rfl hlen (by obtain ⟨-, lv, q, -⟩ := h1; exact q.1) hst (by show 2 * 0 + _ ≤ 8; omega) hd ⟨ro3, ro4⟩) h3 (fun v M' H1 locs1 q1 q2 q3 => (hP _ _ _ _).mp (kk v M' q1) H1 locs1 lsA h1 q2 q3)
theorem r_cv0v (hR : Bd G cc own nL d rt Q P) {Y : gY} {idx dc r i ci : Nat} {v : Value} {fs : List Value} {M2 : gM} (hK : KV own idx Y 0) (hdc : dc + 1 ≤ d) (hC : Cf G Y dc [.ref (ad G r i)] M (some v) M2) (hi : i < gcnt r) (hE : Es G (M.1 r i) (M.2 r i) r i = .inr (ci, fs)) (hci : (vwCl[ci]?).map (fun q => q.1) = some Y.1.cls) (hcat : (st.map fun v => v.category).sum ≤ 8) (hd : decode cc pc = .ok (.invokevirtual idx, 3)) (k : P (pc + 3) ls (v :: st) M2) : P pc ls (.ref (ad G r i) :: st) M := by
  refine g_callV hR (As := []) (st := st) hK hdc rfl hC (fun s H locs q1 q2 q3 => g_recv q1 q2 hi hE hci) rfl hcat hd (fun v' M' q => ?_)
  obtain ⟨rfl, rfl⟩ := q
  exact k
theorem r_cs0v (hR : Bd G cc own nL d rt Q P) {Y : gY} {idx dc : Nat} {v : Value} {M2 : gM} (hK : KS own idx Y 0) (hdc : dc + 1 ≤ d) (hC : Cf G Y dc [] M (some v) M2) (hcat : (st.map fun v => v.category).sum ≤ 8) (hd : decode cc pc = .ok (.invokestatic idx, 3)) (k : P (pc + 3) ls (v :: st) M2) : P pc ls (st) M := by
  refine g_callS hR (As := []) (st := st) hK hdc rfl hC rfl hcat hd (fun v' M' q => ?_)
  obtain ⟨rfl, rfl⟩ := q
  exact k
theorem r_cn0v (hR : Bd G cc own nL d rt Q P) {Y : gY} {idx dc : Nat} {host : String} {v : Value} {M2 : gM} (hK : KC Y 0 ∧ Cond.static Y.1 ∈ GT) (hnw : ∀ s : State, gS G s s.heap → va_Nw (.methodLinkNest own idx Y.1 host) s) (hdc : dc + 1 ≤ d) (hC : Cf G Y dc [] M (some v) M2) (hcat : (st.map fun v => v.category).sum ≤ 8) (hd : decode cc pc = .ok (.invokestatic idx, 3)) (k : P (pc + 3) ls (v :: st) M2) : P pc ls (st) M := by
  refine g_callN hR (As := []) (st := st) hK hnw hdc rfl hC rfl hcat hd (fun v' M' q => ?_)
  obtain ⟨rfl, rfl⟩ := q
  exact k
theorem r_cv0u (hR : Bd G cc own nL d rt Q P) {Y : gY} {idx dc r i ci : Nat} {fs : List Value} {M2 : gM} (hK : KV own idx Y 0) (hdc : dc + 1 ≤ d) (hC : Cf G Y dc [.ref (ad G r i)] M none M2) (hi : i < gcnt r) (hE : Es G (M.1 r i) (M.2 r i) r i = .inr (ci, fs)) (hci : (vwCl[ci]?).map (fun q => q.1) = some Y.1.cls) (hcat : (st.map fun v => v.category).sum ≤ 8) (hd : decode cc pc = .ok (.invokevirtual idx, 3)) (k : P (pc + 3) ls (st) M2) : P pc ls (.ref (ad G r i) :: st) M := by
  refine g_callV hR (As := []) (st := st) hK hdc rfl hC (fun s H locs q1 q2 q3 => g_recv q1 q2 hi hE hci) rfl hcat hd (fun v' M' q => ?_)
  obtain ⟨rfl, rfl⟩ := q
  exact k
theorem r_cs0u (hR : Bd G cc own nL d rt Q P) {Y : gY} {idx dc : Nat} {M2 : gM} (hK : KS own idx Y 0) (hdc : dc + 1 ≤ d) (hC : Cf G Y dc [] M none M2) (hcat : (st.map fun v => v.category).sum ≤ 8) (hd : decode cc pc = .ok (.invokestatic idx, 3)) (k : P (pc + 3) ls (st) M2) : P pc ls (st) M := by
  refine g_callS hR (As := []) (st := st) hK hdc rfl hC rfl hcat hd (fun v' M' q => ?_)
  obtain ⟨rfl, rfl⟩ := q
  exact k
theorem r_cn0u (hR : Bd G cc own nL d rt Q P) {Y : gY} {idx dc : Nat} {host : String} {M2 : gM} (hK : KC Y 0 ∧ Cond.static Y.1 ∈ GT) (hnw : ∀ s : State, gS G s s.heap → va_Nw (.methodLinkNest own idx Y.1 host) s) (hdc : dc + 1 ≤ d) (hC : Cf G Y dc [] M none M2) (hcat : (st.map fun v => v.category).sum ≤ 8) (hd : decode cc pc = .ok (.invokestatic idx, 3)) (k : P (pc + 3) ls (st) M2) : P pc ls (st) M := by
  refine g_callN hR (As := []) (st := st) hK hnw hdc rfl hC rfl hcat hd (fun v' M' q => ?_)
  obtain ⟨rfl, rfl⟩ := q
  exact k
theorem r_cv1v (hR : Bd G cc own nL d rt Q P) {Y : gY} {idx dc r i ci : Nat} {x0 : Value} {v : Value} {fs : List Value} {M2 : gM} (hK : KV own idx Y 1) (hdc : dc + 1 ≤ d) (hC : Cf G Y dc [.ref (ad G r i), x0] M (some v) M2) (hi : i < gcnt r) (hE : Es G (M.1 r i) (M.2 r i) r i = .inr (ci, fs)) (hci : (vwCl[ci]?).map (fun q => q.1) = some Y.1.cls) (hcat : (st.map fun v => v.category).sum ≤ 8) (hd : decode cc pc = .ok (.invokevirtual idx, 3)) (k : P (pc + 3) ls (v :: st) M2) : P pc ls (x0 :: .ref (ad G r i) :: st) M := by
  refine g_callV hR (As := [x0]) (st := st) hK hdc rfl hC (fun s H locs q1 q2 q3 => g_recv q1 q2 hi hE hci) rfl hcat hd (fun v' M' q => ?_)
  obtain ⟨rfl, rfl⟩ := q
  exact k
theorem r_cs1v (hR : Bd G cc own nL d rt Q P) {Y : gY} {idx dc : Nat} {x0 : Value} {v : Value} {M2 : gM} (hK : KS own idx Y 1) (hdc : dc + 1 ≤ d) (hC : Cf G Y dc [x0] M (some v) M2) (hcat : (st.map fun v => v.category).sum ≤ 8) (hd : decode cc pc = .ok (.invokestatic idx, 3)) (k : P (pc + 3) ls (v :: st) M2) : P pc ls (x0 :: st) M := by
  refine g_callS hR (As := [x0]) (st := st) hK hdc rfl hC rfl hcat hd (fun v' M' q => ?_)
  obtain ⟨rfl, rfl⟩ := q
  exact k
theorem r_cn1v (hR : Bd G cc own nL d rt Q P) {Y : gY} {idx dc : Nat} {host : String} {x0 : Value} {v : Value} {M2 : gM} (hK : KC Y 1 ∧ Cond.static Y.1 ∈ GT) (hnw : ∀ s : State, gS G s s.heap → va_Nw (.methodLinkNest own idx Y.1 host) s) (hdc : dc + 1 ≤ d) (hC : Cf G Y dc [x0] M (some v) M2) (hcat : (st.map fun v => v.category).sum ≤ 8) (hd : decode cc pc = .ok (.invokestatic idx, 3)) (k : P (pc + 3) ls (v :: st) M2) : P pc ls (x0 :: st) M := by
  refine g_callN hR (As := [x0]) (st := st) hK hnw hdc rfl hC rfl hcat hd (fun v' M' q => ?_)
  obtain ⟨rfl, rfl⟩ := q
  exact k
theorem r_cv1u (hR : Bd G cc own nL d rt Q P) {Y : gY} {idx dc r i ci : Nat} {x0 : Value} {fs : List Value} {M2 : gM} (hK : KV own idx Y 1) (hdc : dc + 1 ≤ d) (hC : Cf G Y dc [.ref (ad G r i), x0] M none M2) (hi : i < gcnt r) (hE : Es G (M.1 r i) (M.2 r i) r i = .inr (ci, fs)) (hci : (vwCl[ci]?).map (fun q => q.1) = some Y.1.cls) (hcat : (st.map fun v => v.category).sum ≤ 8) (hd : decode cc pc = .ok (.invokevirtual idx, 3)) (k : P (pc + 3) ls (st) M2) : P pc ls (x0 :: .ref (ad G r i) :: st) M := by
  refine g_callV hR (As := [x0]) (st := st) hK hdc rfl hC (fun s H locs q1 q2 q3 => g_recv q1 q2 hi hE hci) rfl hcat hd (fun v' M' q => ?_)
  obtain ⟨rfl, rfl⟩ := q
  exact k
theorem r_cs1u (hR : Bd G cc own nL d rt Q P) {Y : gY} {idx dc : Nat} {x0 : Value} {M2 : gM} (hK : KS own idx Y 1) (hdc : dc + 1 ≤ d) (hC : Cf G Y dc [x0] M none M2) (hcat : (st.map fun v => v.category).sum ≤ 8) (hd : decode cc pc = .ok (.invokestatic idx, 3)) (k : P (pc + 3) ls (st) M2) : P pc ls (x0 :: st) M := by
  refine g_callS hR (As := [x0]) (st := st) hK hdc rfl hC rfl hcat hd (fun v' M' q => ?_)
  obtain ⟨rfl, rfl⟩ := q
  exact k
theorem r_cn1u (hR : Bd G cc own nL d rt Q P) {Y : gY} {idx dc : Nat} {host : String} {x0 : Value} {M2 : gM} (hK : KC Y 1 ∧ Cond.static Y.1 ∈ GT) (hnw : ∀ s : State, gS G s s.heap → va_Nw (.methodLinkNest own idx Y.1 host) s) (hdc : dc + 1 ≤ d) (hC : Cf G Y dc [x0] M none M2) (hcat : (st.map fun v => v.category).sum ≤ 8) (hd : decode cc pc = .ok (.invokestatic idx, 3)) (k : P (pc + 3) ls (st) M2) : P pc ls (x0 :: st) M := by
  refine g_callN hR (As := [x0]) (st := st) hK hnw hdc rfl hC rfl hcat hd (fun v' M' q => ?_)
  obtain ⟨rfl, rfl⟩ := q
  exact k
theorem r_cv2v (hR : Bd G cc own nL d rt Q P) {Y : gY} {idx dc r i ci : Nat} {x0 x1 : Value} {v : Value} {fs : List Value} {M2 : gM} (hK : KV own idx Y 2) (hdc : dc + 1 ≤ d) (hC : Cf G Y dc [.ref (ad G r i), x0, x1] M (some v) M2) (hi : i < gcnt r) (hE : Es G (M.1 r i) (M.2 r i) r i = .inr (ci, fs)) (hci : (vwCl[ci]?).map (fun q => q.1) = some Y.1.cls) (hcat : (st.map fun v => v.category).sum ≤ 8) (hd : decode cc pc = .ok (.invokevirtual idx, 3)) (k : P (pc + 3) ls (v :: st) M2) : P pc ls (x1 :: x0 :: .ref (ad G r i) :: st) M := by
  refine g_callV hR (As := [x0, x1]) (st := st) hK hdc rfl hC (fun s H locs q1 q2 q3 => g_recv q1 q2 hi hE hci) rfl hcat hd (fun v' M' q => ?_)
  obtain ⟨rfl, rfl⟩ := q
  exact k
theorem r_cs2v (hR : Bd G cc own nL d rt Q P) {Y : gY} {idx dc : Nat} {x0 x1 : Value} {v : Value} {M2 : gM} (hK : KS own idx Y 2) (hdc : dc + 1 ≤ d) (hC : Cf G Y dc [x0, x1] M (some v) M2) (hcat : (st.map fun v => v.category).sum ≤ 8) (hd : decode cc pc = .ok (.invokestatic idx, 3)) (k : P (pc + 3) ls (v :: st) M2) : P pc ls (x1 :: x0 :: st) M := by
  refine g_callS hR (As := [x0, x1]) (st := st) hK hdc rfl hC rfl hcat hd (fun v' M' q => ?_)
  obtain ⟨rfl, rfl⟩ := q
  exact k
theorem r_cn2v (hR : Bd G cc own nL d rt Q P) {Y : gY} {idx dc : Nat} {host : String} {x0 x1 : Value} {v : Value} {M2 : gM} (hK : KC Y 2 ∧ Cond.static Y.1 ∈ GT) (hnw : ∀ s : State, gS G s s.heap → va_Nw (.methodLinkNest own idx Y.1 host) s) (hdc : dc + 1 ≤ d) (hC : Cf G Y dc [x0, x1] M (some v) M2) (hcat : (st.map fun v => v.category).sum ≤ 8) (hd : decode cc pc = .ok (.invokestatic idx, 3)) (k : P (pc + 3) ls (v :: st) M2) : P pc ls (x1 :: x0 :: st) M := by
  refine g_callN hR (As := [x0, x1]) (st := st) hK hnw hdc rfl hC rfl hcat hd (fun v' M' q => ?_)
  obtain ⟨rfl, rfl⟩ := q
  exact k
theorem r_cv2u (hR : Bd G cc own nL d rt Q P) {Y : gY} {idx dc r i ci : Nat} {x0 x1 : Value} {fs : List Value} {M2 : gM} (hK : KV own idx Y 2) (hdc : dc + 1 ≤ d) (hC : Cf G Y dc [.ref (ad G r i), x0, x1] M none M2) (hi : i < gcnt r) (hE : Es G (M.1 r i) (M.2 r i) r i = .inr (ci, fs)) (hci : (vwCl[ci]?).map (fun q => q.1) = some Y.1.cls) (hcat : (st.map fun v => v.category).sum ≤ 8) (hd : decode cc pc = .ok (.invokevirtual idx, 3)) (k : P (pc + 3) ls (st) M2) : P pc ls (x1 :: x0 :: .ref (ad G r i) :: st) M := by
  refine g_callV hR (As := [x0, x1]) (st := st) hK hdc rfl hC (fun s H locs q1 q2 q3 => g_recv q1 q2 hi hE hci) rfl hcat hd (fun v' M' q => ?_)
  obtain ⟨rfl, rfl⟩ := q
  exact k
theorem r_cs2u (hR : Bd G cc own nL d rt Q P) {Y : gY} {idx dc : Nat} {x0 x1 : Value} {M2 : gM} (hK : KS own idx Y 2) (hdc : dc + 1 ≤ d) (hC : Cf G Y dc [x0, x1] M none M2) (hcat : (st.map fun v => v.category).sum ≤ 8) (hd : decode cc pc = .ok (.invokestatic idx, 3)) (k : P (pc + 3) ls (st) M2) : P pc ls (x1 :: x0 :: st) M := by
  refine g_callS hR (As := [x0, x1]) (st := st) hK hdc rfl hC rfl hcat hd (fun v' M' q => ?_)
  obtain ⟨rfl, rfl⟩ := q
  exact k
theorem r_cn2u (hR : Bd G cc own nL d rt Q P) {Y : gY} {idx dc : Nat} {host : String} {x0 x1 : Value} {M2 : gM} (hK : KC Y 2 ∧ Cond.static Y.1 ∈ GT) (hnw : ∀ s : State, gS G s s.heap → va_Nw (.methodLinkNest own idx Y.1 host) s) (hdc : dc + 1 ≤ d) (hC : Cf G Y dc [x0, x1] M none M2) (hcat : (st.map fun v => v.category).sum ≤ 8) (hd : decode cc pc = .ok (.invokestatic idx, 3)) (k : P (pc + 3) ls (st) M2) : P pc ls (x1 :: x0 :: st) M := by
  refine g_callN hR (As := [x0, x1]) (st := st) hK hnw hdc rfl hC rfl hcat hd (fun v' M' q => ?_)
  obtain ⟨rfl, rfl⟩ := q
  exact k
theorem r_cv3v (hR : Bd G cc own nL d rt Q P) {Y : gY} {idx dc r i ci : Nat} {x0 x1 x2 : Value} {v : Value} {fs : List Value} {M2 : gM} (hK : KV own idx Y 3) (hdc : dc + 1 ≤ d) (hC : Cf G Y dc [.ref (ad G r i), x0, x1, x2] M (some v) M2) (hi : i < gcnt r) (hE : Es G (M.1 r i) (M.2 r i) r i = .inr (ci, fs)) (hci : (vwCl[ci]?).map (fun q => q.1) = some Y.1.cls) (hcat : (st.map fun v => v.category).sum ≤ 8) (hd : decode cc pc = .ok (.invokevirtual idx, 3)) (k : P (pc + 3) ls (v :: st) M2) : P pc ls (x2 :: x1 :: x0 :: .ref (ad G r i) :: st) M := by
  refine g_callV hR (As := [x0, x1, x2]) (st := st) hK hdc rfl hC (fun s H locs q1 q2 q3 => g_recv q1 q2 hi hE hci) rfl hcat hd (fun v' M' q => ?_)
  obtain ⟨rfl, rfl⟩ := q
  exact k
theorem r_cs3v (hR : Bd G cc own nL d rt Q P) {Y : gY} {idx dc : Nat} {x0 x1 x2 : Value} {v : Value} {M2 : gM} (hK : KS own idx Y 3) (hdc : dc + 1 ≤ d) (hC : Cf G Y dc [x0, x1, x2] M (some v) M2) (hcat : (st.map fun v => v.category).sum ≤ 8) (hd : decode cc pc = .ok (.invokestatic idx, 3)) (k : P (pc + 3) ls (v :: st) M2) : P pc ls (x2 :: x1 :: x0 :: st) M := by
  refine g_callS hR (As := [x0, x1, x2]) (st := st) hK hdc rfl hC rfl hcat hd (fun v' M' q => ?_)
  obtain ⟨rfl, rfl⟩ := q
  exact k
theorem r_cn3v (hR : Bd G cc own nL d rt Q P) {Y : gY} {idx dc : Nat} {host : String} {x0 x1 x2 : Value} {v : Value} {M2 : gM} (hK : KC Y 3 ∧ Cond.static Y.1 ∈ GT) (hnw : ∀ s : State, gS G s s.heap → va_Nw (.methodLinkNest own idx Y.1 host) s) (hdc : dc + 1 ≤ d) (hC : Cf G Y dc [x0, x1, x2] M (some v) M2) (hcat : (st.map fun v => v.category).sum ≤ 8) (hd : decode cc pc = .ok (.invokestatic idx, 3)) (k : P (pc + 3) ls (v :: st) M2) : P pc ls (x2 :: x1 :: x0 :: st) M := by
  refine g_callN hR (As := [x0, x1, x2]) (st := st) hK hnw hdc rfl hC rfl hcat hd (fun v' M' q => ?_)
  obtain ⟨rfl, rfl⟩ := q
  exact k
theorem r_cv3u (hR : Bd G cc own nL d rt Q P) {Y : gY} {idx dc r i ci : Nat} {x0 x1 x2 : Value} {fs : List Value} {M2 : gM} (hK : KV own idx Y 3) (hdc : dc + 1 ≤ d) (hC : Cf G Y dc [.ref (ad G r i), x0, x1, x2] M none M2) (hi : i < gcnt r) (hE : Es G (M.1 r i) (M.2 r i) r i = .inr (ci, fs)) (hci : (vwCl[ci]?).map (fun q => q.1) = some Y.1.cls) (hcat : (st.map fun v => v.category).sum ≤ 8) (hd : decode cc pc = .ok (.invokevirtual idx, 3)) (k : P (pc + 3) ls (st) M2) : P pc ls (x2 :: x1 :: x0 :: .ref (ad G r i) :: st) M := by
  refine g_callV hR (As := [x0, x1, x2]) (st := st) hK hdc rfl hC (fun s H locs q1 q2 q3 => g_recv q1 q2 hi hE hci) rfl hcat hd (fun v' M' q => ?_)
  obtain ⟨rfl, rfl⟩ := q
  exact k
theorem r_cs3u (hR : Bd G cc own nL d rt Q P) {Y : gY} {idx dc : Nat} {x0 x1 x2 : Value} {M2 : gM} (hK : KS own idx Y 3) (hdc : dc + 1 ≤ d) (hC : Cf G Y dc [x0, x1, x2] M none M2) (hcat : (st.map fun v => v.category).sum ≤ 8) (hd : decode cc pc = .ok (.invokestatic idx, 3)) (k : P (pc + 3) ls (st) M2) : P pc ls (x2 :: x1 :: x0 :: st) M := by
  refine g_callS hR (As := [x0, x1, x2]) (st := st) hK hdc rfl hC rfl hcat hd (fun v' M' q => ?_)
  obtain ⟨rfl, rfl⟩ := q
  exact k
theorem r_cn3u (hR : Bd G cc own nL d rt Q P) {Y : gY} {idx dc : Nat} {host : String} {x0 x1 x2 : Value} {M2 : gM} (hK : KC Y 3 ∧ Cond.static Y.1 ∈ GT) (hnw : ∀ s : State, gS G s s.heap → va_Nw (.methodLinkNest own idx Y.1 host) s) (hdc : dc + 1 ≤ d) (hC : Cf G Y dc [x0, x1, x2] M none M2) (hcat : (st.map fun v => v.category).sum ≤ 8) (hd : decode cc pc = .ok (.invokestatic idx, 3)) (k : P (pc + 3) ls (st) M2) : P pc ls (x2 :: x1 :: x0 :: st) M := by
  refine g_callN hR (As := [x0, x1, x2]) (st := st) hK hnw hdc rfl hC rfl hcat hd (fun v' M' q => ?_)
  obtain ⟨rfl, rfl⟩ := q
  exact k
theorem r_cv4v (hR : Bd G cc own nL d rt Q P) {Y : gY} {idx dc r i ci : Nat} {x0 x1 x2 x3 : Value} {v : Value} {fs : List Value} {M2 : gM} (hK : KV own idx Y 4) (hdc : dc + 1 ≤ d) (hC : Cf G Y dc [.ref (ad G r i), x0, x1, x2, x3] M (some v) M2) (hi : i < gcnt r) (hE : Es G (M.1 r i) (M.2 r i) r i = .inr (ci, fs)) (hci : (vwCl[ci]?).map (fun q => q.1) = some Y.1.cls) (hcat : (st.map fun v => v.category).sum ≤ 8) (hd : decode cc pc = .ok (.invokevirtual idx, 3)) (k : P (pc + 3) ls (v :: st) M2) : P pc ls (x3 :: x2 :: x1 :: x0 :: .ref (ad G r i) :: st) M := by
  refine g_callV hR (As := [x0, x1, x2, x3]) (st := st) hK hdc rfl hC (fun s H locs q1 q2 q3 => g_recv q1 q2 hi hE hci) rfl hcat hd (fun v' M' q => ?_)
  obtain ⟨rfl, rfl⟩ := q
  exact k
theorem r_cs4v (hR : Bd G cc own nL d rt Q P) {Y : gY} {idx dc : Nat} {x0 x1 x2 x3 : Value} {v : Value} {M2 : gM} (hK : KS own idx Y 4) (hdc : dc + 1 ≤ d) (hC : Cf G Y dc [x0, x1, x2, x3] M (some v) M2) (hcat : (st.map fun v => v.category).sum ≤ 8) (hd : decode cc pc = .ok (.invokestatic idx, 3)) (k : P (pc + 3) ls (v :: st) M2) : P pc ls (x3 :: x2 :: x1 :: x0 :: st) M := by
  refine g_callS hR (As := [x0, x1, x2, x3]) (st := st) hK hdc rfl hC rfl hcat hd (fun v' M' q => ?_)
  obtain ⟨rfl, rfl⟩ := q
  exact k
theorem r_cn4v (hR : Bd G cc own nL d rt Q P) {Y : gY} {idx dc : Nat} {host : String} {x0 x1 x2 x3 : Value} {v : Value} {M2 : gM} (hK : KC Y 4 ∧ Cond.static Y.1 ∈ GT) (hnw : ∀ s : State, gS G s s.heap → va_Nw (.methodLinkNest own idx Y.1 host) s) (hdc : dc + 1 ≤ d) (hC : Cf G Y dc [x0, x1, x2, x3] M (some v) M2) (hcat : (st.map fun v => v.category).sum ≤ 8) (hd : decode cc pc = .ok (.invokestatic idx, 3)) (k : P (pc + 3) ls (v :: st) M2) : P pc ls (x3 :: x2 :: x1 :: x0 :: st) M := by
  refine g_callN hR (As := [x0, x1, x2, x3]) (st := st) hK hnw hdc rfl hC rfl hcat hd (fun v' M' q => ?_)
  obtain ⟨rfl, rfl⟩ := q
  exact k
theorem r_cv4u (hR : Bd G cc own nL d rt Q P) {Y : gY} {idx dc r i ci : Nat} {x0 x1 x2 x3 : Value} {fs : List Value} {M2 : gM} (hK : KV own idx Y 4) (hdc : dc + 1 ≤ d) (hC : Cf G Y dc [.ref (ad G r i), x0, x1, x2, x3] M none M2) (hi : i < gcnt r) (hE : Es G (M.1 r i) (M.2 r i) r i = .inr (ci, fs)) (hci : (vwCl[ci]?).map (fun q => q.1) = some Y.1.cls) (hcat : (st.map fun v => v.category).sum ≤ 8) (hd : decode cc pc = .ok (.invokevirtual idx, 3)) (k : P (pc + 3) ls (st) M2) : P pc ls (x3 :: x2 :: x1 :: x0 :: .ref (ad G r i) :: st) M := by
  refine g_callV hR (As := [x0, x1, x2, x3]) (st := st) hK hdc rfl hC (fun s H locs q1 q2 q3 => g_recv q1 q2 hi hE hci) rfl hcat hd (fun v' M' q => ?_)
  obtain ⟨rfl, rfl⟩ := q
  exact k
theorem r_cs4u (hR : Bd G cc own nL d rt Q P) {Y : gY} {idx dc : Nat} {x0 x1 x2 x3 : Value} {M2 : gM} (hK : KS own idx Y 4) (hdc : dc + 1 ≤ d) (hC : Cf G Y dc [x0, x1, x2, x3] M none M2) (hcat : (st.map fun v => v.category).sum ≤ 8) (hd : decode cc pc = .ok (.invokestatic idx, 3)) (k : P (pc + 3) ls (st) M2) : P pc ls (x3 :: x2 :: x1 :: x0 :: st) M := by
  refine g_callS hR (As := [x0, x1, x2, x3]) (st := st) hK hdc rfl hC rfl hcat hd (fun v' M' q => ?_)
  obtain ⟨rfl, rfl⟩ := q
  exact k
theorem r_cn4u (hR : Bd G cc own nL d rt Q P) {Y : gY} {idx dc : Nat} {host : String} {x0 x1 x2 x3 : Value} {M2 : gM} (hK : KC Y 4 ∧ Cond.static Y.1 ∈ GT) (hnw : ∀ s : State, gS G s s.heap → va_Nw (.methodLinkNest own idx Y.1 host) s) (hdc : dc + 1 ≤ d) (hC : Cf G Y dc [x0, x1, x2, x3] M none M2) (hcat : (st.map fun v => v.category).sum ≤ 8) (hd : decode cc pc = .ok (.invokestatic idx, 3)) (k : P (pc + 3) ls (st) M2) : P pc ls (x3 :: x2 :: x1 :: x0 :: st) M := by
  refine g_callN hR (As := [x0, x1, x2, x3]) (st := st) hK hnw hdc rfl hC rfl hcat hd (fun v' M' q => ?_)
  obtain ⟨rfl, rfl⟩ := q
  exact k
theorem r_cv5v (hR : Bd G cc own nL d rt Q P) {Y : gY} {idx dc r i ci : Nat} {x0 x1 x2 x3 x4 : Value} {v : Value} {fs : List Value} {M2 : gM} (hK : KV own idx Y 5) (hdc : dc + 1 ≤ d) (hC : Cf G Y dc [.ref (ad G r i), x0, x1, x2, x3, x4] M (some v) M2) (hi : i < gcnt r) (hE : Es G (M.1 r i) (M.2 r i) r i = .inr (ci, fs)) (hci : (vwCl[ci]?).map (fun q => q.1) = some Y.1.cls) (hcat : (st.map fun v => v.category).sum ≤ 8) (hd : decode cc pc = .ok (.invokevirtual idx, 3)) (k : P (pc + 3) ls (v :: st) M2) : P pc ls (x4 :: x3 :: x2 :: x1 :: x0 :: .ref (ad G r i) :: st) M := by
  refine g_callV hR (As := [x0, x1, x2, x3, x4]) (st := st) hK hdc rfl hC (fun s H locs q1 q2 q3 => g_recv q1 q2 hi hE hci) rfl hcat hd (fun v' M' q => ?_)
  obtain ⟨rfl, rfl⟩ := q
  exact k
theorem r_cs5v (hR : Bd G cc own nL d rt Q P) {Y : gY} {idx dc : Nat} {x0 x1 x2 x3 x4 : Value} {v : Value} {M2 : gM} (hK : KS own idx Y 5) (hdc : dc + 1 ≤ d) (hC : Cf G Y dc [x0, x1, x2, x3, x4] M (some v) M2) (hcat : (st.map fun v => v.category).sum ≤ 8) (hd : decode cc pc = .ok (.invokestatic idx, 3)) (k : P (pc + 3) ls (v :: st) M2) : P pc ls (x4 :: x3 :: x2 :: x1 :: x0 :: st) M := by
  refine g_callS hR (As := [x0, x1, x2, x3, x4]) (st := st) hK hdc rfl hC rfl hcat hd (fun v' M' q => ?_)
  obtain ⟨rfl, rfl⟩ := q
  exact k
theorem r_cn5v (hR : Bd G cc own nL d rt Q P) {Y : gY} {idx dc : Nat} {host : String} {x0 x1 x2 x3 x4 : Value} {v : Value} {M2 : gM} (hK : KC Y 5 ∧ Cond.static Y.1 ∈ GT) (hnw : ∀ s : State, gS G s s.heap → va_Nw (.methodLinkNest own idx Y.1 host) s) (hdc : dc + 1 ≤ d) (hC : Cf G Y dc [x0, x1, x2, x3, x4] M (some v) M2) (hcat : (st.map fun v => v.category).sum ≤ 8) (hd : decode cc pc = .ok (.invokestatic idx, 3)) (k : P (pc + 3) ls (v :: st) M2) : P pc ls (x4 :: x3 :: x2 :: x1 :: x0 :: st) M := by
  refine g_callN hR (As := [x0, x1, x2, x3, x4]) (st := st) hK hnw hdc rfl hC rfl hcat hd (fun v' M' q => ?_)
  obtain ⟨rfl, rfl⟩ := q
  exact k
theorem r_cv5u (hR : Bd G cc own nL d rt Q P) {Y : gY} {idx dc r i ci : Nat} {x0 x1 x2 x3 x4 : Value} {fs : List Value} {M2 : gM} (hK : KV own idx Y 5) (hdc : dc + 1 ≤ d) (hC : Cf G Y dc [.ref (ad G r i), x0, x1, x2, x3, x4] M none M2) (hi : i < gcnt r) (hE : Es G (M.1 r i) (M.2 r i) r i = .inr (ci, fs)) (hci : (vwCl[ci]?).map (fun q => q.1) = some Y.1.cls) (hcat : (st.map fun v => v.category).sum ≤ 8) (hd : decode cc pc = .ok (.invokevirtual idx, 3)) (k : P (pc + 3) ls (st) M2) : P pc ls (x4 :: x3 :: x2 :: x1 :: x0 :: .ref (ad G r i) :: st) M := by
  refine g_callV hR (As := [x0, x1, x2, x3, x4]) (st := st) hK hdc rfl hC (fun s H locs q1 q2 q3 => g_recv q1 q2 hi hE hci) rfl hcat hd (fun v' M' q => ?_)
  obtain ⟨rfl, rfl⟩ := q
  exact k
theorem r_cs5u (hR : Bd G cc own nL d rt Q P) {Y : gY} {idx dc : Nat} {x0 x1 x2 x3 x4 : Value} {M2 : gM} (hK : KS own idx Y 5) (hdc : dc + 1 ≤ d) (hC : Cf G Y dc [x0, x1, x2, x3, x4] M none M2) (hcat : (st.map fun v => v.category).sum ≤ 8) (hd : decode cc pc = .ok (.invokestatic idx, 3)) (k : P (pc + 3) ls (st) M2) : P pc ls (x4 :: x3 :: x2 :: x1 :: x0 :: st) M := by
  refine g_callS hR (As := [x0, x1, x2, x3, x4]) (st := st) hK hdc rfl hC rfl hcat hd (fun v' M' q => ?_)
  obtain ⟨rfl, rfl⟩ := q
  exact k
theorem r_cn5u (hR : Bd G cc own nL d rt Q P) {Y : gY} {idx dc : Nat} {host : String} {x0 x1 x2 x3 x4 : Value} {M2 : gM} (hK : KC Y 5 ∧ Cond.static Y.1 ∈ GT) (hnw : ∀ s : State, gS G s s.heap → va_Nw (.methodLinkNest own idx Y.1 host) s) (hdc : dc + 1 ≤ d) (hC : Cf G Y dc [x0, x1, x2, x3, x4] M none M2) (hcat : (st.map fun v => v.category).sum ≤ 8) (hd : decode cc pc = .ok (.invokestatic idx, 3)) (k : P (pc + 3) ls (st) M2) : P pc ls (x4 :: x3 :: x2 :: x1 :: x0 :: st) M := by
  refine g_callN hR (As := [x0, x1, x2, x3, x4]) (st := st) hK hnw hdc rfl hC rfl hcat hd (fun v' M' q => ?_)
  obtain ⟨rfl, rfl⟩ := q
  exact k
/-! the JDK's own: max, min, arraycopy -/
theorem r_max (hR : Bd G cc own nL d rt Q P) {idx : Nat} {x y : Int32} (hl : Cond.methodLink own idx Lib.Math.max.name ∈ GT ∧ Cond.static Lib.Math.max.name ∈ GT ∧ Cond.initialized "java/lang/Math" ∈ GT ∧ Cond.code Lib.Math.max.name Lib.Math.max.code 2 (some .int) ∈ GT) (hdd : 1 ≤ d) (hcat : (st.map fun v => v.category).sum ≤ 8) (hd : decode cc pc = .ok (.invokestatic idx, 3)) (k : P (pc + 3) ls (.int (if x < y then y else x) :: st) M) : P pc ls (.int y :: .int x :: st) M := by
  obtain ⟨p, l, e, R, s, m, args, below, meth, c, cells, slots, QQ, hx, hb, hml, hown, hts, hroom, hS0, hP, hret⟩ := hR
  obtain ⟨ro1, ro2, ro3, ro4⟩ := hroom
  refine (hP _ _ _ _).mpr fun H locs lsA h1 h2 h3 => va_mmax hx hb (by obtain ⟨-, lv, q, -⟩ := h1; rw [hml]; exact q.1.symm) hown (hts _ hl.1) (hts _ hl.2.1) (hts _ hl.2.2.1) (hts _ hl.2.2.2) (by omega) (by omega) ro3 ro4 hd ((hP _ _ _ _).mp k H locs lsA h1 h2 h3)
theorem r_min (hR : Bd G cc own nL d rt Q P) {idx : Nat} {x y : Int32} (hl : Cond.methodLink own idx Lib.Math.min.name ∈ GT ∧ Cond.static Lib.Math.min.name ∈ GT ∧ Cond.initialized "java/lang/Math" ∈ GT ∧ Cond.code Lib.Math.min.name Lib.Math.min.code 2 (some .int) ∈ GT) (hdd : 1 ≤ d) (hcat : (st.map fun v => v.category).sum ≤ 8) (hd : decode cc pc = .ok (.invokestatic idx, 3)) (k : P (pc + 3) ls (.int (if y < x then y else x) :: st) M) : P pc ls (.int y :: .int x :: st) M := by
  obtain ⟨p, l, e, R, s, m, args, below, meth, c, cells, slots, QQ, hx, hb, hml, hown, hts, hroom, hS0, hP, hret⟩ := hR
  obtain ⟨ro1, ro2, ro3, ro4⟩ := hroom
  refine (hP _ _ _ _).mpr fun H locs lsA h1 h2 h3 => va_mmin hx hb (by obtain ⟨-, lv, q, -⟩ := h1; rw [hml]; exact q.1.symm) hown (hts _ hl.1) (hts _ hl.2.1) (hts _ hl.2.2.1) (hts _ hl.2.2.2) (by omega) (by omega) ro3 ro4 hd ((hP _ _ _ _).mp k H locs lsA h1 h2 h3)
abbrev KA (own : String) (idx : Nat) : Prop := Cond.methodLink own idx arraycopyName ∈ GT ∧ Cond.native arraycopyName ∈ GT ∧ Cond.static arraycopyName ∈ GT ∧ Cond.initialized "java/lang/System" ∈ GT
theorem r_copyi (hR : Bd G cc own nL d rt Q P) {idx r i r2 i2 n1 n2 a1 a2 a3 : Nat} {sp dp n : Int32} (hl : KA own idx) (hdd : 2 ≤ d) (hi : i < gcnt r) (hi2 : i2 < gcnt r2) (hE : Es G (M.1 r i) (M.2 r i) r i = .inl (gcI G, n1, .inl (M.1 r i))) (hE2 : ∀ f, Es G f (M.2 r2 i2) r2 i2 = .inl (gcI G, n2, .inl f)) (e1 : sp = nI a1) (e2 : dp = nI a2) (e3 : n = nI a3) (b1 : a1 + a3 ≤ n1) (b2 : a2 + a3 ≤ n2) (b3 : n1 < 2 ^ 31) (b4 : n2 < 2 ^ 31) (hcat : (st.map fun v => v.category).sum ≤ 8) (hd : decode cc pc = .ok (.invokestatic idx, 3)) (k : P (pc + 3) ls st (setI M r2 i2 (va_cpy (M.1 r i) (M.1 r2 i2) a1 a2 a3))) : P pc ls (.int n :: .int dp :: .ref (ad G r2 i2) :: .int sp :: .ref (ad G r i) :: st) M := by
  obtain ⟨p, l, e, R, s, m, args, below, meth, c, cells, slots, QQ, hx, hb, hml, hown, hts, hroom, hS0, hP, hret⟩ := hR
  obtain ⟨ro1, ro2, ro3, ro4⟩ := hroom
  subst e1; subst e2; subst e3
  have c1 : (nI a1).toNatClampNeg = a1 := nI_clamp (by omega)
  have c2 : (nI a2).toNatClampNeg = a2 := nI_clamp (by omega)
  have c3 : (nI a3).toNatClampNeg = a3 := nI_clamp (by omega)
  refine (hP _ _ _ _).mpr fun H locs lsA h1 h2 h3 => va_copyi (ws := gWl G M) (A := fr G) (ty := .int) hx hb (by obtain ⟨-, lv, q, -⟩ := h1; rw [hml]; exact q.1.symm) hown (hts _ hl.1) (hts _ hl.2.1) (hts _ hl.2.2.1) (hts _ hl.2.2.2) hS0.1 h2 (gWl_D G M) h3 (goff r i) (goff r2 i2) 0 0 (by rw [gWl_at hi, hE]) (by rw [gWl_at hi2, hE2]) rfl rfl rfl (nI_pos (by omega)) (nI_pos (by omega)) (nI_pos (by omega)) (by rw [c1, c3]; exact b1) (by rw [c2, c3]; exact b2) (fun _ _ => rfl) (by omega) (Nat.le_trans (show _ ≤ 60 from Nat.le_trans (Nat.add_le_add_right hcat _) (by decide +kernel)) (by omega)) hd (fun H1 locs1 g1 g2 g3 => ?_)
  rw [c1, c2, c3, gWl_set (M' := setI M r2 i2 (va_cpy (M.1 r i) (M.1 r2 i2) a1 a2 a3)) hi2 (setI_o M r2 i2 _) (by rw [setI_s]; exact hE2 _)] at g1
  exact (hP _ _ _ _).mp k H1 locs1 lsA h1 g1 g3
theorem r_copyl (hR : Bd G cc own nL d rt Q P) {idx r i r2 i2 n1 n2 a1 a2 a3 : Nat} {sp dp n : Int32} (hl : KA own idx) (hdd : 2 ≤ d) (hi : i < gcnt r) (hi2 : i2 < gcnt r2) (hE : Es G (M.1 r i) (M.2 r i) r i = .inl (gcL G, n1, .inr (.inl (M.2 r i)))) (hE2 : ∀ f, Es G (M.1 r2 i2) f r2 i2 = .inl (gcL G, n2, .inr (.inl f))) (e1 : sp = nI a1) (e2 : dp = nI a2) (e3 : n = nI a3) (b1 : a1 + a3 ≤ n1) (b2 : a2 + a3 ≤ n2) (b3 : n1 < 2 ^ 31) (b4 : n2 < 2 ^ 31) (hcat : (st.map fun v => v.category).sum ≤ 8) (hd : decode cc pc = .ok (.invokestatic idx, 3)) (k : P (pc + 3) ls st (setL M r2 i2 (va_cpy (M.2 r i) (M.2 r2 i2) a1 a2 a3))) : P pc ls (.int n :: .int dp :: .ref (ad G r2 i2) :: .int sp :: .ref (ad G r i) :: st) M := by
  obtain ⟨p, l, e, R, s, m, args, below, meth, c, cells, slots, QQ, hx, hb, hml, hown, hts, hroom, hS0, hP, hret⟩ := hR
  obtain ⟨ro1, ro2, ro3, ro4⟩ := hroom
  subst e1; subst e2; subst e3
  have c1 : (nI a1).toNatClampNeg = a1 := nI_clamp (by omega)
  have c2 : (nI a2).toNatClampNeg = a2 := nI_clamp (by omega)
  have c3 : (nI a3).toNatClampNeg = a3 := nI_clamp (by omega)
  refine (hP _ _ _ _).mpr fun H locs lsA h1 h2 h3 => va_copyl (ws := gWl G M) (A := fr G) (ty := .long) hx hb (by obtain ⟨-, lv, q, -⟩ := h1; rw [hml]; exact q.1.symm) hown (hts _ hl.1) (hts _ hl.2.1) (hts _ hl.2.2.1) (hts _ hl.2.2.2) hS0.1 h2 (gWl_D G M) h3 (goff r i) (goff r2 i2) 1 1 (by rw [gWl_at hi, hE]) (by rw [gWl_at hi2, hE2]) rfl rfl rfl (nI_pos (by omega)) (nI_pos (by omega)) (nI_pos (by omega)) (by rw [c1, c3]; exact b1) (by rw [c2, c3]; exact b2) (fun _ _ => rfl) (by omega) (Nat.le_trans (show _ ≤ 60 from Nat.le_trans (Nat.add_le_add_right hcat _) (by decide +kernel)) (by omega)) hd (fun H1 locs1 g1 g2 g3 => ?_)
  rw [c1, c2, c3, gWl_set (M' := setL M r2 i2 (va_cpy (M.2 r i) (M.2 r2 i2) a1 a2 a3)) hi2 (setL_o M r2 i2 _) (by rw [setL_s]; exact hE2 _)] at g1
  exact (hP _ _ _ _).mp k H1 locs1 lsA h1 g1 g3
end Rows
