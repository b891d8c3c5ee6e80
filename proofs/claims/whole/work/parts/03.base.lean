/-! MEMORY: all cells of class and reference are made by the two constructors; afterwards the world is a fixed row of 64 cells: region r, index i. gM: what their numbers are. -/
abbrev gM : Type := (Nat → Nat → Nat → Int32) × (Nat → Nat → Nat → Int64)
def seti (M : gM) (r i k : Nat) (x : Int32) : gM := (fun r' i' => if r' = r ∧ i' = i then upd (M.1 r i) k x else M.1 r' i', M.2)
def setl (M : gM) (r i k : Nat) (x : Int64) : gM := (M.1, fun r' i' => if r' = r ∧ i' = i then vp_updL (M.2 r i) k x else M.2 r' i')
/-- a whole row of ints, of longs -/
def setI (M : gM) (r i : Nat) (f : Nat → Int32) : gM := (fun r' i' => if r' = r ∧ i' = i then f else M.1 r' i', M.2)
def setL (M : gM) (r i : Nat) (f : Nat → Int64) : gM := (M.1, fun r' i' => if r' = r ∧ i' = i then f else M.2 r' i')
abbrev gG : Type := va_G × (ClassId × ClassId × ClassId × ClassId) × Nat × (Nat → Nat) × (Nat → Nat) × (Nat → Nat)
def gD (G : gG) : va_G := G.1
def gcI (G : gG) : ClassId := G.2.1.1
def gcL (G : gG) : ClassId := G.2.1.2.1
def gcS (G : gG) : ClassId := G.2.1.2.2.1
def gcT (G : gG) : ClassId := G.2.1.2.2.2
def gb (G : gG) : Nat := G.2.2.1
def gsa (G : gG) : Nat → Nat := G.2.2.2.1
def gks (G : gG) : Nat → Nat := G.2.2.2.2.1
def gkv (G : gG) : Nat → Nat := G.2.2.2.2.2
def gcnt (r : Nat) : Nat := [1, 3, 3, 3, 26, 1, 2, 1, 1, 1, 1, 1, 4, 4, 1, 1, 3, 1, 2, 1, 2, 1].getD r 0
def goff (r i : Nat) : Nat := if r = 4 then (if i < 24 then 4 + 11 * (i / 8) + i % 8 else 10 + i) else [0, 1, 2, 3, 0, 36, 37, 39, 40, 41, 42, 43, 44, 45, 52, 53, 54, 57, 58, 60, 61, 63].getD r 0 + [0, 11, 11, 11, 0, 0, 1, 0, 0, 0, 0, 0, 2, 2, 0, 0, 1, 0, 1, 0, 1, 0].getD r 0 * i
def ginvL : List (Nat × Nat) := [(0, 0), (1, 0), (2, 0), (3, 0), (4, 0), (4, 1), (4, 2), (4, 3), (4, 4), (4, 5), (4, 6), (4, 7), (1, 1), (2, 1), (3, 1), (4, 8), (4, 9), (4, 10), (4, 11), (4, 12), (4, 13), (4, 14), (4, 15), (1, 2), (2, 2), (3, 2), (4, 16), (4, 17), (4, 18), (4, 19), (4, 20), (4, 21), (4, 22), (4, 23), (4, 24), (4, 25), (5, 0), (6, 0), (6, 1), (7, 0), (8, 0), (9, 0), (10, 0), (11, 0), (12, 0), (13, 0), (12, 1), (13, 1), (12, 2), (13, 2), (12, 3), (13, 3), (14, 0), (15, 0), (16, 0), (16, 1), (16, 2), (17, 0), (18, 0), (18, 1), (19, 0), (20, 0), (20, 1), (21, 0)]
def ginv (o : Nat) : Nat × Nat := ginvL.getD o (0, 0)
theorem gcnt_r {r i : Nat} (h : i < gcnt r) : r < 22 := by
  rcases Nat.lt_or_ge r 22 with q | q
  · exact q
  · unfold gcnt at h
    rw [List.getD_eq_getElem?_getD, List.getElem?_eq_none (by simpa using q)] at h
    exact absurd h (Nat.not_lt_zero i)
theorem ginv_d : ∀ r, r < 22 → ∀ i, i < gcnt r → goff r i < 64 ∧ ginv (goff r i) = (r, i) := by decide +kernel
theorem ginv_o : ∀ o, o < 64 → (ginv o).2 < gcnt (ginv o).1 ∧ goff (ginv o).1 (ginv o).2 = o := by decide +kernel
theorem goff_lt {r i : Nat} (h : i < gcnt r) : goff r i < 64 := (ginv_d r (gcnt_r h) i h).1
theorem ginv_goff {r i : Nat} (h : i < gcnt r) : ginv (goff r i) = (r, i) := (ginv_d r (gcnt_r h) i h).2
def ad (G : gG) (r i : Nat) : Nat := gb G + goff r i
def fr (G : gG) : Nat → Prop := fun q => gb G ≤ q ∧ q < gb G + 64
abbrev rfA (n : Nat) (f : Nat → Option Nat) : vp_A := (n, .inr (.inr (.inr (.inr f))))
/-- what a cell holds: its ints f, its longs g -/
def Es (G : gG) (f : Nat → Int32) (g : Nat → Int64) (r i : Nat) : va_E := match r with
  | 0 => .inr (7, [.ref (ad G 1 0), .ref (ad G 1 1), .ref (ad G 1 2), .int (f 3), .ref (ad G 4 24), .ref (ad G 4 25), .ref (ad G 5 0), .ref (ad G 7 0), .ref (ad G 8 0), .ref (ad G 10 0), .ref (ad G 11 0), .ref (ad G 14 0)])
  | 1 => .inr (1, [.int (f 0), .ref (ad G 2 i), .int (f 2), .int (f 3), .int (f 4), .ref (ad G 3 i)])
  | 2 => .inl (gcI G, 7, .inl f)
  | 3 => .inl (gcT G, rfA 8 (fun k => some (ad G 4 (8 * i + k))))
  | 4 => .inr (5, [.int (f 0), .int (f 1), .int (f 2), .int (f 3)])
  | 5 => .inr (6, [.ref (ad G 6 0), .ref (ad G 6 1)])
  | 6 => .inl (gcI G, 36, .inl f)
  | 7 => .inr (0, [.int (f 0), .int (f 1)])
  | 8 => .inr (3, [.ref (ad G 9 0), .int (f 1), .int (f 2), .int (f 3), .int (f 4)])
  | 9 => .inl (gcI G, 120, .inl f)
  | 10 => .inr (4, [.ref (ad G 8 0)])
  | 11 => .inl (gcS G, rfA 4 (fun k => some (ad G 12 k)))
  | 12 => .inr (2, [.int (f 0), .int (f 1), .ref (ad G 13 i)])
  | 13 => .inl (gcL G, 40, .inr (.inl g))
  | 14 => .inl (gcI G, 7, .inl f)
  | 15 => .inr (8, [.ref (ad G 16 0), .ref (ad G 16 1), .ref (ad G 16 2), .int (f 3), .ref (ad G 17 0), .ref (ad G 18 0), .ref (ad G 18 1), .ref (ad G 19 0), .int (f 8), .int (f 9), .int (f 10), .int (f 11), .int (f 12), .int (f 13), .ref (ad G 20 0), .ref (ad G 20 1), .ref (ad G 21 0)])
  | 16 => .inl (gcI G, 43, .inl f)
  | 17 => .inl (gcI G, 7, .inl f)
  | 18 => .inl (gcI G, 36, .inl f)
  | 19 => .inl (gcI G, 120, .inl f)
  | 20 => .inl (gcI G, 4, .inl f)
  | _ => .inl (gcL G, 160, .inr (.inl g))
def gEl (G : gG) (M : gM) (o : Nat) : Nat × va_E := (gb G + o, Es G (M.1 (ginv o).1 (ginv o).2) (M.2 (ginv o).1 (ginv o).2) (ginv o).1 (ginv o).2)
def gWl (G : gG) (M : gM) : va_W := (List.range 64).map (gEl G M)
def gH (G : gG) (M : gM) (H : Heap) : Prop := va_P (gD G) vwCl (gWl G M) H
def gtys (G : gG) : List (ClassId × FieldType) := [(gcI G, .int), (gcL G, .long), (gcS G, .object "WindRota$Sheet"), (gcT G, .object "WindRota$Thing")]
theorem gWl_get (G : gG) (M : gM) (o : Nat) : (gWl G M)[o]? = if o < 64 then some (gEl G M o) else none := by
  unfold gWl
  rw [List.getElem?_map]
  by_cases h : o < 64
  · rw [if_pos h, List.getElem?_range h]; rfl
  · rw [if_neg h, List.getElem?_eq_none (by simpa using h)]; rfl
theorem gWl_at {G : gG} {M : gM} {r i : Nat} (h : i < gcnt r) : (gWl G M)[goff r i]? = some (ad G r i, Es G (M.1 r i) (M.2 r i) r i) := by
  rw [gWl_get, if_pos (goff_lt h)]
  unfold gEl
  rw [ginv_goff h]
  rfl
theorem gWl_D (G : gG) (M : gM) : va_D (fr G) (gWl G M) := by
  refine ⟨fun i j p q hp hq e => ?_, fun k q hq => ?_⟩
  · rw [gWl_get] at hp hq
    split at hp <;> split at hq <;> simp at hp hq
    subst hp; subst hq
    simp only [gEl] at e
    omega
  · rw [gWl_get] at hq
    split at hq <;> simp at hq
    subst hq
    exact ⟨Nat.le_add_right _ _, Nat.add_lt_add_left (by assumption) _⟩
theorem gWl_set {G : gG} {M M' : gM} {r i : Nat} {e : va_E} (h : i < gcnt r) (ho : ∀ r' i', ¬ (r' = r ∧ i' = i) → M'.1 r' i' = M.1 r' i' ∧ M'.2 r' i' = M.2 r' i') (he : Es G (M'.1 r i) (M'.2 r i) r i = e) : (gWl G M).set (goff r i) (ad G r i, e) = gWl G M' := by
  apply List.ext_getElem?
  intro o
  rw [List.getElem?_set, gWl_get, gWl_get]
  have hlen : (gWl G M).length = 64 := by simp [gWl]
  rw [hlen]
  by_cases q : goff r i = o
  · subst q
    rw [if_pos rfl, if_pos (goff_lt h), if_pos (goff_lt h)]
    unfold gEl
    rw [ginv_goff h, ← he]
    rfl
  · rw [if_neg q]
    by_cases z : o < 64
    · rw [if_pos z, if_pos z]
      obtain ⟨z1, z2⟩ := ginv_o o z
      have hn : ¬ ((ginv o).1 = r ∧ (ginv o).2 = i) := fun w => q (by rw [← w.1, ← w.2]; exact z2)
      unfold gEl
      rw [(ho _ _ hn).1, (ho _ _ hn).2]
    · rw [if_neg z, if_neg z]
theorem seti_s (M : gM) (r i k : Nat) (x : Int32) : (seti M r i k x).1 r i = upd (M.1 r i) k x := by simp [seti]
theorem setl_s (M : gM) (r i k : Nat) (x : Int64) : (setl M r i k x).2 r i = vp_updL (M.2 r i) k x := by simp [setl]
theorem setI_s (M : gM) (r i : Nat) (f : Nat → Int32) : (setI M r i f).1 r i = f := by simp [setI]
theorem setL_s (M : gM) (r i : Nat) (f : Nat → Int64) : (setL M r i f).2 r i = f := by simp [setL]
theorem seti_o (M : gM) (r i k : Nat) (x : Int32) : ∀ r' i', ¬ (r' = r ∧ i' = i) → (seti M r i k x).1 r' i' = M.1 r' i' ∧ (seti M r i k x).2 r' i' = M.2 r' i' := fun r' i' h => ⟨by simp only [seti, if_neg h], rfl⟩
theorem setl_o (M : gM) (r i k : Nat) (x : Int64) : ∀ r' i', ¬ (r' = r ∧ i' = i) → (setl M r i k x).1 r' i' = M.1 r' i' ∧ (setl M r i k x).2 r' i' = M.2 r' i' := fun r' i' h => ⟨rfl, by simp only [setl, if_neg h]⟩
theorem setI_o (M : gM) (r i : Nat) (f : Nat → Int32) : ∀ r' i', ¬ (r' = r ∧ i' = i) → (setI M r i f).1 r' i' = M.1 r' i' ∧ (setI M r i f).2 r' i' = M.2 r' i' := fun r' i' h => ⟨by simp only [setI, if_neg h], rfl⟩
theorem setL_o (M : gM) (r i : Nat) (f : Nat → Int64) : ∀ r' i', ¬ (r' = r ∧ i' = i) → (setL M r i f).1 r' i' = M.1 r' i' ∧ (setL M r i f).2 r' i' = M.2 r' i' := fun r' i' h => ⟨rfl, by simp only [setL, if_neg h]⟩
/-! THE WORDS -/
def GT : List Cond := lw_tbl.filter goodWord
theorem GT_tbl {w : Cond} (h : w ∈ GT) : w ∈ lw_tbl := (List.mem_filter.mp h).1
theorem GT_good {w : Cond} (h : w ∈ GT) : goodWord w = true := (List.mem_filter.mp h).2
theorem GT_t {w : Cond} (i : Nat) (h : tables_1[i]? = some w) (hg : goodWord w = true) : w ∈ GT := List.mem_filter.mpr ⟨List.mem_append_right _ (List.mem_of_getElem? h), hg⟩
theorem GT_p {y : MethodName} {n : Nat} (i : Nat) (h : lw_privs[i]? = some (y, n)) : Cond.selects y.cls y y ∈ GT := List.mem_filter.mpr ⟨List.mem_append_left _ (List.mem_map.mpr ⟨(y, n), List.mem_of_getElem? h, rfl⟩), rfl⟩
abbrev gY : Type := MethodName × ByteArray × Nat × Option FieldType
abbrev wsY (Y : gY) : List Cond := Cond.code Y.1 Y.2.1 Y.2.2.1 Y.2.2.2 :: GT
theorem good_wsY {Y : gY} (hc : Cond.code Y.1 Y.2.1 Y.2.2.1 Y.2.2.2 ∈ GT) : GoodIn GT (wsY Y) := by
  intro w hw
  rcases List.mem_cons.mp hw with rfl | h
  · exact ⟨hc, good_of_word (GT_good hc)⟩
  · exact ⟨h, good_of_word (GT_good h)⟩
def rmD (d : Nat) : Room := { frames := d, cells := 0, slots := 0, locals := 30 * d }
/-! WHAT STANDS OUTSIDE: classes, static rows, texts -/
def sC (k : Nat) : String := if k < 3 then "WindRota" else "WindRotaModel"
def sN (k : Nat) : String := ["ROWS_DOWN", "COLUMNS_RIGHT", "NEARER_WAY", "NAMES"].getD k ""
def sF0 : List Int32 := [-1, -1, 0, 1, 1, 1, 0, -1]
def sF1 : List Int32 := [0, 1, 1, 1, 0, -1, -1, -1]
def sF2 : List Int32 := [0, 1, 2, 3, 4, 3, 2, 1]
def sF3 : List Int32 := [109, 105, 108, 108, 0, 0, 0, 102, 105, 115, 104, 101, 114, 0, 119, 97, 115, 104, 105, 110, 103, 107, 105, 116, 101, 0, 0, 0, 99, 97, 112, 116, 97, 105, 110, 119, 105, 100, 111, 119, 0, 0, 97, 116, 0, 0, 0, 0, 0, 102, 97, 99, 105, 110, 103, 0, 114, 111, 116, 97, 0, 0, 0, 115, 105, 99, 107, 0, 0, 0, 119, 101, 108, 108, 0, 0, 0, 102, 111, 114, 99, 101, 0, 0]
def sFl (k : Nat) : List Int32 := [sF0, sF1, sF2, sF3].getD k []
def kLen : List Nat := [4, 6, 7, 4, 7, 5, 2, 6, 4, 4, 4, 5]
def kByt : List (List Int32) := [[109, 105, 108, 108], [102, 105, 115, 104, 101, 114], [119, 97, 115, 104, 105, 110, 103], [107, 105, 116, 101], [99, 97, 112, 116, 97, 105, 110], [119, 105, 100, 111, 119], [97, 116], [102, 97, 99, 105, 110, 103], [114, 111, 116, 97], [115, 105, 99, 107], [119, 101, 108, 108], [102, 111, 114, 99, 101]]
def kTx : List String := ["mill", "fisher", "washing", "kite", "captain", "widow", "at", "facing", "rota", "sick", "well", "force"]
def kIx : List Nat := [108, 98, 100, 102, 104, 106, 70, 76, 42, 51, 57, 59]
def gS (G : gG) (U : State) (H : Heap) : Prop :=
  va_K (gD G) vwCl (gtys G) U ∧ (∀ k, k < 4 → va_Z (sC k) (sN k) "[I" (.ref (gsa G k)) (fr G) U H ∧ va_T .int (gsa G k) (sFl k).length (fun j => .int ((sFl k).getD j 0)) (fr G) U H) ∧
  (va_Z "java/lang/String" "COMPACT_STRINGS" "Z" (.int 1) (fr G) U H ∧ va_Zq "jdk/internal/util/Preconditions" "SIOOBE_FORMATTER" "Ljava/util/function/BiFunction;" (fr G) U H) ∧ vk_S 12 kLen kByt (gks G) (gkv G) (fr G) U H ∧ (∀ i, i < 12 → vk_R "WindRota$Teller" (kIx.getD i 0) (kTx.getD i "") (gks G i) U) ∧
  va_Nw (.methodLinkNest RX5 41 yX7_cellBehind RX7) U ∧ va_Nw (.methodLinkNest RX6 34 yX7_within RX7) U ∧ va_Nw (.fieldLinkNest RX5 55 RX7 "NEARER_WAY" "[I" RX7) U
theorem gS.warm {G : gG} {s U : State} {H : Heap} (hW : s.WarmedH U.vm) (h : gS G s H) : gS G U H := by
  obtain ⟨h1, h2, h3, h4, h5, h6, h7, h8⟩ := h
  exact ⟨va_K.moved hW.alike h1, fun k hk => ⟨(h2 k hk).1.moved hW.alike, (h2 k hk).2.moved hW.alike⟩, ⟨h3.1.moved hW.alike, h3.2.moved hW.alike⟩, h4.moved hW.alike, fun i hi => (h5 i hi).warm hW, va_Nw.warmM hW h6, va_Nw.warmM hW h7, va_Nw.warmF hW h8⟩
theorem gS.kept {G : gG} {U : State} {H H1 : Heap} (h : gS G U H) (hq : ∀ a : Nat, a < H.size → ¬ fr G a → H1[a]? = H[a]?) : gS G U H1 := by
  obtain ⟨h1, h2, h3, h4, h5, h6⟩ := h
  exact ⟨h1, fun k hk => ⟨(h2 k hk).1.kept hq, (h2 k hk).2.kept hq⟩, ⟨h3.1.kept hq, h3.2.kept hq⟩, h4.kept hq, h5, h6⟩
theorem gS.same {G : gG} {u U : State} {H : Heap} (hv : U.vm = u.vm) (h : gS G u H) : gS G U H := by
  obtain ⟨h1, h2, h3, h4, h5, h6, h7, h8⟩ := h
  have ha : u.vm.Alike U.vm := by rw [hv]; exact Vm.Alike.refl _
  exact ⟨va_K.moved ha h1, fun k hk => ⟨(h2 k hk).1.moved ha, (h2 k hk).2.moved ha⟩, ⟨h3.1.moved ha, h3.2.moved ha⟩, h4.moved ha, fun i hi => (h5 i hi).same hv, va_Nw.same rfl hv.symm h6, va_Nw.same rfl hv.symm h7, va_Nw.same rfl hv.symm h8⟩
/-! A METHOD'S CONTRACT over the memory -/
def Ct (G : gG) (Y : gY) (d : Nat) (vs : List Value) (M : gM) (Q : Option Value → gM → Prop) : Prop :=
  ∀ l : Launch, Met l Y.1 (wsY Y) (rmD d) (va_Pc vs (fun U => gS G U U.heap ∧ gH G M U.heap)) (fun _ st oc t => ∃ (v : Option Value) (M' : gM), oc = .returned v ∧ Q v M' ∧ gH G M' t.heap ∧ va_F (fr G) st t) 0 0 (fr G)
abbrev Cf (G : gG) (Y : gY) (d : Nat) (vs : List Value) (M : gM) (r : Option Value) (M2 : gM) : Prop := Ct G Y d vs M (fun v M' => v = r ∧ M' = M2)
abbrev gP : Type := Nat → List (Option Value) → List Value → gM → Prop
def hasL (lsA : Array Slot) (nL : Nat) (ls : List (Option Value)) : Prop := ls.length = nL ∧ ∃ lv, lv_has lsA nL lv ∧ ∀ (i : Nat) (v : Value), ls[i]? = some (some v) → (i, v) ∈ lv
def Rt (cc : ByteArray) (rt : Option FieldType) (Q : Option Value → gM → Prop) (P : gP) : Prop :=
  (∀ (pc : Nat) (ls : List (Option Value)) (x : Int32) (M : gM) (ty : FieldType), rt = some ty → decode cc pc = .ok (.ireturn, 1) → narrow ty (.int x) = .int x → Q (some (.int x)) M → P pc ls [.int x] M) ∧
  (∀ (pc : Nat) (ls : List (Option Value)) (x : Int64) (M : gM), rt = some .long → decode cc pc = .ok (.lreturn, 1) → Q (some (.long x)) M → P pc ls [.long x] M) ∧
  (∀ (pc : Nat) (ls : List (Option Value)) (M : gM), rt = none → decode cc pc = .ok (.return_, 1) → Q none M → P pc ls [] M)
/-- P is what the machine says at a place of a method's code: locals, stack, memory -/
def Bd (G : gG) (cc : ByteArray) (own : String) (nL d : Nat) (rt : Option FieldType) (Q : Option Value → gM → Prop) (P : gP) : Prop :=
  ∃ (p : Program) (l : Launch) (e : Env) (R : Room) (s : State) (m : MethodId) (args : Array Value) (below : List Frame) (meth : Method) (c : Code) (cells slots : Nat) (QQ : State → Prop),
    p.tables.exec = Jvm.exec ∧ c.code = cc ∧ c.maxLocals = nL ∧ s.vm.findClass own = some m.cls ∧ (∀ w ∈ GT, w.before args s = true) ∧ (d ≤ R.frames ∧ 30 * d ≤ R.locals ∧ cells ≤ R.cells ∧ slots ≤ R.slots) ∧ gS G s s.heap ∧
    (∀ pc ls st M, P pc ls st M ↔ ∀ (H : Heap) (locs : List Loc) (lsA : Array Slot), hasL lsA nL ls → gH G M H → va_S (fr G) s.heap H locs → W p l e R s m args below meth c H locs cells slots QQ (F0 m pc lsA st)) ∧ Rt cc rt Q P
