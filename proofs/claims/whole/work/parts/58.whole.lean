theorem kn_L_7 : KN RL 7 RX7 TX7 12 7 tyX7 [.null, .null, .null, .int 0, .null, .null, .null, .null, .null, .null, .null, .null] := ⟨GT_t 17 (by decide +kernel) rfl, GT_t 18 (by decide +kernel) rfl, GT_t 1 (by decide +kernel) rfl, inGX7, tyX7_ok, rfl, fun j hj => by rcases (show j = 0 ∨ j = 1 ∨ j = 2 ∨ j = 3 ∨ j = 4 ∨ j = 5 ∨ j = 6 ∨ j = 7 ∨ j = 8 ∨ j = 9 ∨ j = 10 ∨ j = 11 by omega) with rfl | rfl | rfl | rfl | rfl | rfl | rfl | rfl | rfl | rfl | rfl | rfl <;> rfl⟩
theorem kn_L_10 : KN RL 10 RX8 TX8 17 8 tyX8 [.null, .null, .null, .int 0, .null, .null, .null, .null, .int 0, .int 0, .int 0, .int 0, .int 0, .int 0, .null, .null, .null] := ⟨GT_t 704 (by decide +kernel) rfl, GT_t 705 (by decide +kernel) rfl, GT_t 9 (by decide +kernel) rfl, inGX8, tyX8_ok, rfl, fun j hj => by rcases (show j = 0 ∨ j = 1 ∨ j = 2 ∨ j = 3 ∨ j = 4 ∨ j = 5 ∨ j = 6 ∨ j = 7 ∨ j = 8 ∨ j = 9 ∨ j = 10 ∨ j = 11 ∨ j = 12 ∨ j = 13 ∨ j = 14 ∨ j = 15 ∨ j = 16 by omega) with rfl | rfl | rfl | rfl | rfl | rfl | rfl | rfl | rfl | rfl | rfl | rfl | rfl | rfl | rfl | rfl | rfl <;> rfl⟩
theorem ki_L_9 : KI RL 9 mX7_init 0 := ⟨kc_X7_init, GT_t 19 (by decide +kernel) rfl, rfl, GT_t 20 (by decide +kernel) rfl, rfl⟩
theorem ki_L_12 : KI RL 12 mX8_init 0 := ⟨kc_X8_init, GT_t 706 (by decide +kernel) rfl, rfl, GT_t 707 (by decide +kernel) rfl, rfl⟩
/-! THE CLAIM OUT OF ONE WALK OF THE LAW'S BODY. Your part is whole_start (and what it stands on); all else here is the same for every law, but numbers. -/
def R_law : String := "WindRotaLaw"
def lw_P (b : Addr) (xs : List Int32) (args : Array Value) (s : State) : Prop := args = #[.ref b] ∧ s.IntsAt b xs ∧ xs.length ≤ 3072 ∧ (Jvm.Cond.and given_1 narrow_1).before args s = true
def lw_Q (_ : Array Value) (s : State) (o : Outcome) (t : State) : Prop := o = .returned (some (.int 1)) ∧ Framed s o t [] 600000 7302250
def lw_Z (below : List Frame) (a : Array Value) (s : State) : State → Prop := fun t => ∃ o, t.status = .running ∧ Ended t below o ∧ lw_Q a s o t
/-- the law's own end, with 1 on the stack, nothing written that was there before, its room as the claim has it -/
theorem lw_ret {p : Program} {l : Launch} {e : Env} {s : State} {m : MethodId} {below : List Frame} {meth : Method} {c : Code} {b : Nat} (hx : p.tables.exec = Jvm.exec) (hb : c.code = code) (hr : meth.sig.returnType = ret) (hlocks : meth.locks = false) {pc : Nat} {H : Heap} {ls : Array Slot} (hdg : decode code pc = .ok (.ireturn, 1)) : W p l e room_1 s m #[Value.ref b] below meth c H [] 600000 7302250 (lw_Z below #[Value.ref b] s) (F0 m pc ls [.int 1]) := by
  intro T hT X
  obtain ⟨fs, hret, hrun, hended, hW, hframe⟩ := X.leave (v := some (.int 1)) (hlocks := hlocks) (fun h => by rw [hr] at h; cases h)
  have hmeth' : T.vm.method? m = some meth := X.method'
  refine ⟨T.setFrames fs, ?_, .returned (some (.int 1)), hrun, hended, rfl, ⟨_, rfl⟩, hW, hframe⟩
  jvm_step X.here [X.here.top, hx, hb, hdg, hmeth', hr, ret, narrow_b1]
  (try refine ⟨rfl, ?_⟩); (try refine ⟨rfl, ?_⟩)
  first | (intro acts; rw [hret _ acts rfl rfl rfl]) | rw [hret _ _ rfl rfl rfl]
  exact Steps.refl _
/-- what holds at the law's entry: the machine, the code, the tables' words (any of lw_tbl by 'hts w (by decide +kernel)'), the script of L ints xs at the cell b, what the Statement gives of the start (any of its parts by flat_of_before) -/
def lw_At (p : Program) (s : State) (m : MethodId) (meth : Method) (c : Code) (b L : Nat) (xs : Nat → Int32) : Prop :=
  p.tables.exec = Jvm.exec ∧ c.code = code ∧ meth.sig.returnType = ret ∧ c.maxLocals = 4 ∧ s.vm.findClass R_law = some m.cls ∧ (∀ w ∈ lw_tbl, w.before #[Value.ref b] s = true) ∧ va_X b L xs s s.heap ∧ b < s.heap.size ∧ meth.locks = false ∧ (Jvm.Cond.and given_1 narrow_1).before #[Value.ref b] s = true
-- ===== YOUR PART BEGINS =====
set_option maxHeartbeats 4000000 in
set_option maxRecDepth 100000 in
theorem whole_start {p : Program} {e : Env} {s : State} {m : MethodId} {below : List Frame} {meth : Method} {c : Code} (l : Launch) (hflags : l.flags = flags0) {b L : Nat} {xs : Nat → Int32} (hL : L ≤ 3072) (C0 : lw_At p s m meth c b L xs) : W p l e room_1 s m #[Value.ref b] below meth c s.heap [] 0 0 (lw_Z below #[Value.ref b] s) (entryFrame m ([Value.ref b] : List Value).toArray 4) := by
  obtain ⟨hx, hb, hr, hml, hown, hts, hX, hbl, hlocks, hgv⟩ := C0
  obtain ⟨G, hgb, hgS, hkS⟩ := law_G hts hgv
  have hnA : ¬ fr G b := fun h => by
    have h1 := h.1
    rw [hgb] at h1
    omega
  have hroom : (13 : Nat) ≤ room_1.frames ∧ 30 * 13 ≤ room_1.locals ∧ 64 ≤ room_1.cells ∧ 1077 ≤ room_1.slots := ⟨Nat.le_of_ble_eq_true rfl, Nat.le_of_ble_eq_true rfl, Nat.le_of_ble_eq_true rfl, Nat.le_of_ble_eq_true rfl⟩
  obtain ⟨PB, hPB⟩ : ∃ PB : gP, PB = fun pc ls st M => ∀ (H : Heap) (locs : List Loc) (lsA : Array Slot), hasL lsA 4 ls → gH G M H → va_S (fr G) s.heap H locs → W p l e room_1 s m #[Value.ref b] below meth c H locs 64 1077 (lw_Z below #[Value.ref b] s) (F0 m pc lsA st) := ⟨_, rfl⟩
  have hPi : ∀ pc ls st M, PB pc ls st M ↔ ∀ (H : Heap) (locs : List Loc) (lsA : Array Slot), hasL lsA 4 ls → gH G M H → va_S (fr G) s.heap H locs → W p l e room_1 s m #[Value.ref b] below meth c H locs 64 1077 (lw_Z below #[Value.ref b] s) (F0 m pc lsA st) := fun pc ls st M => by rw [hPB]
  have HB : Bd G cL_law RL 4 13 (some .boolean) (fun v _ => v = some (.int 1)) PB := by
    refine ⟨p, l, e, room_1, s, m, #[Value.ref b], below, meth, c, 64, 1077, _, hx, hb, hml, hown, fun w hw => hts w (GT_tbl hw), hroom, hgS, hPi, ?_, ?_, ?_⟩
    · intro pc ls x M ty hty hd hnar hQ
      cases hQ
      refine (hPi _ _ _ _).mpr fun H locs lsA h1 h2 h3 => ?_
      refine va_forget (fun q hq => by have h5 := (h3.2.2 q hq).1; rw [hgb] at h5; exact h5) ?_
      exact W.widen (Nat.le_of_ble_eq_true rfl) (Nat.le_of_ble_eq_true rfl) (lw_ret hx hb hr hlocks hd)
    · intro pc ls x M hty
      cases hty
    · intro pc ls M hty
      cases hty
  have HC : LwC G b L xs PB := by
    refine ⟨HB, fun pc ls st M j hd hj k => ?_, fun pc ls st M hd k => ?_⟩
    · obtain ⟨z1, z2⟩ := vpN (x := nI j) rfl hj (by omega)
      refine (hPi _ _ _ _).mpr fun H locs lsA h1 h2 h3 => va_sld hx hb hX hbl hnA h3 z1 hd ?_
      rw [z2]
      exact (hPi _ _ _ _).mp k H locs lsA h1 h2 h3
    · exact (hPi _ _ _ _).mpr fun H locs lsA h1 h2 h3 => va_slen hx hb hX hbl hnA h3 hd ((hPi _ _ _ _).mp k H locs lsA h1 h2 h3)
  have K16 : PB 16 [some (.ref b), some (.ref (ad G 0 0)), some (.ref (ad G 15 0)), none] [] M0 := by
    have hR := HB
    refine r_iconst hR (nI 0) (by decide) dL_law_16 ?_
    refine r_istore3 hR (fun _ h => by first | (cases h; rfl) | exact absurd h (by simp)) dL_law_17 ?_
    exact law_loop HC hL 512 0 M0 A0 (by omega) (by omega) cls_0 mdl_0 wfA_0
  obtain ⟨PK, hPK⟩ : ∃ PK : kP, PK = fun a b' pc ls st L' => ∀ (H : Heap) (locs : List Loc) (lsA : Array Slot), hasL lsA 4 ls → gK G ([] ++ L') H → va_S (fK G) s.heap H locs → s.heap.size + a = H.size → W p l e room_1 s m #[Value.ref b] below meth c H locs a b' (lw_Z below #[Value.ref b] s) (F0 m pc lsA st) := ⟨_, rfl⟩
  have hKi : ∀ a b' pc ls st L', PK a b' pc ls st L' ↔ ∀ (H : Heap) (locs : List Loc) (lsA : Array Slot), hasL lsA 4 ls → gK G ([] ++ L') H → va_S (fK G) s.heap H locs → s.heap.size + a = H.size → W p l e room_1 s m #[Value.ref b] below meth c H locs a b' (lw_Z below #[Value.ref b] s) (F0 m pc lsA st) := fun a b' pc ls st L' => by rw [hPK]
  have hR : Bk G [] 0 cL_law RL 4 13 64 1077 false PK := ⟨p, l, e, room_1, s, m, #[Value.ref b], below, meth, c, _, hx, hb, hml, hown, fun w hw => hts w (GT_tbl hw), hroom, hkS, fun h => absurd h (by decide), rfl, Nat.le_of_eq hgb, hKi⟩
  have key : PK 0 0 0 [some (.ref b), none, none, none] [] [] := by
    refine k_new hR 0 kn_L_7 rfl (by decide) (by decide) dL_law_0 ?_
    refine k_dup hR rfl dL_law_3 ?_
    refine k_call hR (As := []) 0 ki_L_9 (by decide) rfl (c_X7_init (K0 := [] ++ _) (n := 0 + 0) rfl) rfl (by decide) (by decide) rfl (Nat.le_of_ble_eq_true rfl) dL_law_4 ?_
    refine k_astore hR 1 [some (.ref b), some (.ref (gb G + (0 + 0))), none, none] rfl (by simp) (okSt_of1 (fun _ h => by cases h; rfl)) rfl dL_law_7 ?_
    refine k_new hR 53 kn_L_10 rfl (by decide) (by decide) dL_law_8 ?_
    refine k_dup hR rfl dL_law_11 ?_
    refine k_call hR (As := []) 53 ki_L_12 (by decide) rfl (c_X8_init (K0 := [] ++ _) (n := 0 + 53) rfl) rfl (by decide) (by decide) rfl (Nat.le_of_ble_eq_true rfl) dL_law_12 ?_
    refine k_astore hR 2 [some (.ref b), some (.ref (gb G + (0 + 0))), some (.ref (gb G + (0 + 53))), none] rfl (by simp) (okSt_of2 (fun _ h => by cases h; rfl)) rfl dL_law_15 ?_
    refine (hKi _ _ _ _ _ _).mpr fun H locs lsA h1 h2 h3 h4 => ?_
    refine va_forget (fun q hq => by have h5 : gb G ≤ q.base := h3.2.2 q hq; rw [hgb] at h5; exact h5) ?_
    exact (hPi _ _ _ _).mp K16 H [] lsA h1 (born_gH h2.1) ⟨h3.1, fun q q1 q2 => h3.2.1 q q1 (fun z => by have z : gb G ≤ q := z; rw [hgb] at z; omega), fun _ h => absurd h List.not_mem_nil⟩
  rw [lg_entry_eq]
  exact (hKi _ _ _ _ _ _).mp key s.heap [] _ (hasL_entry [Value.ref b] (k := 3) rfl rfl) ⟨fun k q hq => (by rw [kW_get] at hq; cases hq), by rw [hgb]; rfl⟩ va_S.rf rfl
-- ===== YOUR PART ENDS =====
set_option maxHeartbeats 4000000 in
theorem lw_walk (l : Launch) (hflags : l.flags = flags0) (b : Addr) (xs : List Int32) : MetFree l x (headSpec (Jvm.Cond.code x code maxLocals ret :: tables_1) room_1) (lw_P b xs) (fun _ _ _ _ _ => True) lw_Q := by
  refine MetFree.of_bodyS (code := code) (maxLocals := maxLocals) (ret := ret) (by decide) ?_ ?_
  · intro args s m h hn
    obtain ⟨meth, c, h1, h2, h3, h4, h5, h6, -, -⟩ := Cond.code_spec hn (atoms_spec (ws := Jvm.Cond.code x code maxLocals ret :: tables_1) h _ List.mem_cons_self)
    exact ⟨meth, c, h1, h2, h3, h4, h5, h6⟩
  · intro p e s m args below meth c s₁ B hml0 hP _
    obtain ⟨rfl, hx, hbd, hgv⟩ := hP
    obtain ⟨scr, harrAt, hlist, hof, hsmall⟩ := hx
    obtain ⟨hcb, hkn, -, -⟩ := State.arrayAt?_spec harrAt
    have hown : s.vm.findClass R_law = some m.cls := findClass_of_methodNamed B.named
    have hts0 : ∀ c ∈ (Jvm.Cond.code x code maxLocals ret :: tables_1), c.before #[Value.ref b] s = true := atoms_spec (ws := Jvm.Cond.code x code maxLocals ret :: tables_1) B.pre
    have hts : ∀ w ∈ lw_tbl, w.before #[Value.ref b] s = true := k2_hts_sels lw_privs (fun w hw => hts0 w (List.mem_cons_of_mem _ hw)) lw_privs_ok
    have hml : c.maxLocals = 4 := B.maxLocals_eq (hts0 _ List.mem_cons_self)
    have X₀ : Stand p l e room_1 s m #[Value.ref b] below meth c s₁ [] 0 0 := Stand.of_body B
    have hh0 : s₁.heap = s.heap := by rw [B.state]; rfl
    have hsz : scr.slots.size = xs.length := by rw [← Array.length_toList, hlist, List.length_map]
    have hval : ∀ j : Nat, j < xs.length → scr.slots[j]? = some (.int (xs.getD j 0)) := fun j hj => by
      rw [← Array.getElem?_toList, hlist]
      simp [hj]
    have hbl : b < s.heap.size := (Array.getElem?_eq_some_iff.mp hcb).1
    have hX : va_X b xs.length (fun j => xs.getD j 0) s s.heap := ⟨scr, hcb, hof, hkn, hsz, hval⟩
    have K : W p l e room_1 s m #[Value.ref b] below meth c s₁.heap [] 0 0 (lw_Z below #[Value.ref b] s) (entryFrame m ([Value.ref b] : List Value).toArray 4) := by
      rw [hh0]
      exact whole_start l hflags hbd ⟨B.exec, B.bytes, B.returns, hml, hown, hts, hX, hbl, B.notSynchronized, hgv⟩
    obtain ⟨t, a1, o, b1, b2, b3⟩ := K s₁ rfl X₀
    exact ⟨t, o, a1, b1, b2, b3⟩
theorem lw_pre_spec {args : Array Value} {s : State} (h : (Jvm.Cond.and given_1 narrow_1).before args s = true) (hr : rest_1_c.before args s = true) : ∃ (b : Addr) (xs : List Int32), lw_P b xs args s := by
  have hs := flat_of_before _ h
  have hq := flat_of_before _ hr
  have hc : (Cond.count 1).before args s = true := hs _ (by decide +kernel)
  have harr : (Cond.arrayOf (.arg 0) .int).before args s = true := hs _ (by decide +kernel)
  have hle : (Cond.le (.length (.arg 0)) (.int 3072)).before args s = true := hs _ (by decide +kernel)
  have hlen : (Cond.isInt (.length (.arg 0))).before args s = true := hq _ (by decide +kernel)
  have hall : (Cond.all (.arg 0) (.isInt (.elem (.arg 0) (.index 0)))).before args s = true := hq _ (by decide +kernel)
  obtain ⟨b, xs, hb, hx⟩ := State.ints_of_pre rfl harr hlen hall
  have hsm : xs.length < 2 ^ 31 := hx.choose_spec.2.2.2
  have hev : (Term.length (.arg 0)).eval args s none [] s = some (.int xs.length.toInt32) := hx.length_eval hb
  have hv := Cond.le_ints hev (show (Term.int 3072).eval args s none [] s = some (.int 3072) from rfl)
  have hd : xs.length.toInt32 ≤ 3072 := by
    simpa [Cond.before, Cond.holds, hv] using hle
  have hN : xs.length ≤ 3072 := (Int32.ofNat_le_ofNat hsm (by decide)).mp (show Int32.ofNat xs.length ≤ Int32.ofNat 3072 from hd)
  exact ⟨b, xs, Cond.one_arg hc (show args[0]? = some (.ref b) from hb), hx, hN, h⟩
theorem lw_comes (l : Launch) (hflags : l.flags = flags0) : Comes l x (Jvm.Cond.code x code maxLocals ret :: tables_1) room_1 (fun tb e args s => Calls_1 tb e args s ∧ rest_1 tb e args s ∧ Pre_1 tb e args s)
    (fun _ _ args s o t => lw_Q args s o t) := by
  intro p e ha hc hk s m args below hf hfit hheap happ hpre
  obtain ⟨b, xs, hP⟩ := lw_pre_spec hpre.2.2 hpre.2.1
  obtain ⟨k, o, h1, h2, h3, hQ⟩ := lw_walk l hflags b xs p e ha hc hk s m args below hf ((Spec.applies_iff_loose hf).mp happ).1 hP trivial
  exact ⟨k, o, h1, h2, h3, hQ⟩
theorem lw_frame {s t : State} {o : Outcome} {args : Array Value} (h : Framed s o t [] 600000 7302250) :
    Framed s o t (fieldLocs frame_1_writes args s ++ arrayLocs frame_1_arrays args s ++ staticLocs frame_1_statics s) 600000 7302250 := h
theorem lw_limb (L : Cond) (hL : ∀ (args : Array Value) (s t : State), L.after args s (.returned (some (.int 1))) t = true) :
    ArmFor flags0 classFile x code maxLocals ret World_1 tables_1 room_1 Calls_1 rest_1 Pre_1
      (fun tb e a s o t => postC L tb e a s o t ∧ Framed s o t (fieldLocs frame_1_writes a s ++ arrayLocs frame_1_arrays a s ++ staticLocs frame_1_statics s) 600000 7302250) := by
  intro l hflags _ _ p e ha hc hk s m args below hf hfit hheap happ hpre
  obtain ⟨k, o, h1, h2, h3, rfl, hF⟩ := lw_comes l hflags p e ha hc hk s m args below hf hfit hheap happ hpre
  exact ⟨k, _, h1, h2, h3, hL args s _, lw_frame hF⟩
theorem i_vc : Claimed_1_1 ∧ Claimed_1_2 := ⟨lw_limb limb_1_1 (fun args s t => by simp [limb_1_1, Cond.after, Cond.holds, Cond.value]), lw_limb limb_1_2 (fun args s t => Cond.after_iff.mpr (by
  first | (rw [show limb_1_2 = Cond.eq .result (.int 1) from rfl, Cond.eq_ints (x := 1) (y := 1) rfl rfl]; simp; done) | (simp [limb_1_2, Cond.value, Term.eval]; done)))⟩
