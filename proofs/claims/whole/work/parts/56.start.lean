/-! THE START: what the Statement gives gives gS and kS -/
theorem tb {w : Cond} (i : Nat) (h : tables_1[i]? = some w) : w ∈ lw_tbl := List.mem_append_right _ (List.mem_of_getElem? h)
def FL : List Cond := flatC (Jvm.Cond.and given_1 narrow_1)
theorem fb {w : Cond} (i : Nat) (h : FL[i]? = some w) : w ∈ flatC (Jvm.Cond.and given_1 narrow_1) := List.mem_of_getElem? h
def kTm (i : Nat) : Term := .string "WindRota$Teller" (kIx.getD i 0)
def kOff : List Nat := [206, 147, 157, 169, 179, 193, 219, 231, 248, 264, 281, 299]
def kNe : List (List Nat) := [[0, 214, 215, 216, 217, 218, 230, 246, 261, 277, 294, 313], [214, 0, 168, 177, 190, 202, 225, 241, 256, 272, 289, 308], [215, 168, 0, 178, 191, 203, 226, 242, 257, 273, 290, 309], [216, 177, 178, 0, 192, 204, 227, 243, 258, 274, 291, 310], [217, 190, 191, 192, 0, 205, 228, 244, 259, 275, 292, 311], [218, 202, 203, 204, 205, 0, 229, 245, 260, 276, 293, 312], [230, 225, 226, 227, 228, 229, 0, 247, 262, 278, 295, 314], [246, 241, 242, 243, 244, 245, 247, 0, 263, 279, 296, 315], [261, 256, 257, 258, 259, 260, 262, 263, 0, 280, 297, 316], [277, 272, 273, 274, 275, 276, 278, 279, 280, 0, 298, 317], [294, 289, 290, 291, 292, 293, 295, 296, 297, 298, 0, 318], [313, 308, 309, 310, 311, 312, 314, 315, 316, 317, 318, 0]]
def kSr : List Nat := [525, 520, 521, 522, 523, 524, 584, 598, 600, 605, 611, 612]
set_option maxRecDepth 100000 in
theorem f_el : ∀ k, k < 4 → ∀ j, j < (sFl k).length → FL[([7, 18, 29, 45] : List Nat).getD k 0 + j]? = some (Cond.eq (.elem (.static (sC k) (sN k) "[I") (.int (Int32.ofNat j))) (.int ((sFl k).getD j 0))) := by decide +kernel
set_option maxRecDepth 100000 in
theorem f_ar : ∀ k, k < 4 → FL[([7, 18, 29, 45] : List Nat).getD k 0 - 2]? = some (Cond.arrayOf (.static (sC k) (sN k) "[I") .int) ∧ FL[([7, 18, 29, 45] : List Nat).getD k 0 - 1]? = some (Cond.eq (.length (.static (sC k) (sN k) "[I")) (.int (Int32.ofNat (sFl k).length))) ∧ (sFl k).length < 2 ^ 31 := by decide +kernel
set_option maxRecDepth 100000 in
theorem f_ls : ∀ k, k < 4 → tables_1[([262, 264, 297, 1011] : List Nat).getD k 0]? = some (Cond.laysStatic (sC k) (sN k) "[I") ∧ tables_1[([1, 1, 1, 9] : List Nat).getD k 0]? = some (Cond.initialized (sC k)) := by decide +kernel
set_option maxRecDepth 100000 in
theorem f_st : ∀ i, i < 12 → FL[kOff.getD i 0]? = some (Cond.exactly (kTm i) "java/lang/String") ∧ FL[kOff.getD i 0 + 1]? = some (Cond.eq (.field (kTm i) "java/lang/String" "coder" "B") (.int 0)) ∧ FL[kOff.getD i 0 + 2]? = some (Cond.arrayOf (.field (kTm i) "java/lang/String" "value" "[B") .byte) ∧ FL[kOff.getD i 0 + 3]? = some (Cond.eq (.length (.field (kTm i) "java/lang/String" "value" "[B")) (.int (Int32.ofNat (kLen.getD i 0)))) := by decide +kernel
set_option maxRecDepth 100000 in
theorem f_se : ∀ i, i < 12 → ∀ j, j < kLen.getD i 0 → FL[kOff.getD i 0 + 4 + j]? = some (Cond.eq (.elem (.field (kTm i) "java/lang/String" "value" "[B") (.int (Int32.ofNat j))) (.int ((kByt.getD i []).getD j 0))) := by decide +kernel
set_option maxRecDepth 100000 in
theorem f_ne : ∀ i, i < 12 → ∀ j, j < 12 → i ≠ j → FL[(kNe.getD i []).getD j 0]? = some (Cond.not (Cond.eq (kTm i) (kTm j))) ∨ FL[(kNe.getD i []).getD j 0]? = some (Cond.not (Cond.eq (kTm j) (kTm i))) := by decide +kernel
set_option maxRecDepth 100000 in
theorem f_sr : ∀ i, i < 12 → tables_1[kSr.getD i 0]? = some (Cond.stringRef "WindRota$Teller" (kIx.getD i 0) (kTx.getD i "")) := by decide +kernel
set_option maxHeartbeats 4000000 in
set_option maxRecDepth 100000 in
theorem law_G {s : State} {b : Nat} (hts : ∀ w ∈ lw_tbl, w.before #[Value.ref b] s = true) (hg : (Jvm.Cond.and given_1 narrow_1).before #[Value.ref b] s = true) : ∃ G : gG, gb G = s.heap.size ∧ gS G s s.heap ∧ kS G s := by
  have hF := flat_of_before _ hg
  obtain ⟨c0, i0, k0⟩ := u_known (n := 2) (fun w hw => hts w (GT_tbl hw)) inGX0 (hts _ (tb 104 (by decide +kernel)))
  obtain ⟨c1, i1, k1⟩ := u_known (n := 6) (fun w hw => hts w (GT_tbl hw)) inGX1 (hts _ (tb 26 (by decide +kernel)))
  obtain ⟨c2, i2, k2⟩ := u_known (n := 3) (fun w hw => hts w (GT_tbl hw)) inGX2 (hts _ (tb 154 (by decide +kernel)))
  obtain ⟨c3, i3, k3⟩ := u_known (n := 5) (fun w hw => hts w (GT_tbl hw)) inGX3 (hts _ (tb 118 (by decide +kernel)))
  obtain ⟨c4, i4, k4⟩ := u_known (n := 1) (fun w hw => hts w (GT_tbl hw)) inGX4 (hts _ (tb 143 (by decide +kernel)))
  obtain ⟨c5, i5, k5⟩ := u_known (n := 4) (fun w hw => hts w (GT_tbl hw)) inGX5 (hts _ (tb 33 (by decide +kernel)))
  obtain ⟨c6, i6, k6⟩ := u_known (n := 2) (fun w hw => hts w (GT_tbl hw)) inGX6 (hts _ (tb 90 (by decide +kernel)))
  obtain ⟨c7, i7, k7⟩ := u_known (n := 12) (fun w hw => hts w (GT_tbl hw)) inGX7 (hts _ (tb 18 (by decide +kernel)))
  obtain ⟨c8, i8, k8⟩ := u_known (n := 17) (fun w hw => hts w (GT_tbl hw)) inGX8 (hts _ (tb 705 (by decide +kernel)))
  obtain ⟨cI, kI, pI, a1, a2, a3⟩ := Cond.arrayClass_spec (type := .int) (hts _ (tb 59 (by decide +kernel)))
  obtain ⟨cL, kL, pL, b1, b2, b3⟩ := Cond.arrayClass_spec (type := .long) (hts _ (tb 172 (by decide +kernel)))
  obtain ⟨pS, cS, kS', s1, -, s3, s4, s5⟩ := Cond.arrayOver_spec (n := "WindRota$Sheet") (hts _ (tb 153 (by decide +kernel)))
  obtain ⟨pT, cT, kT, t1, -, t3, t4, t5⟩ := Cond.arrayOver_spec (n := "WindRota$Thing") (hts _ (tb 32 (by decide +kernel)))
  obtain ⟨A, hAe⟩ : ∃ A : Nat → Prop, A = fun q => s.heap.size ≤ q ∧ q < s.heap.size + 64 := ⟨_, rfl⟩
  have hA : ∀ a : Nat, a < s.heap.size → ¬ A a := fun a ha h => by rw [hAe] at h; have h := h.1; omega
  have hT : ∀ k, ∃ t : Nat, k < 4 → va_Z (sC k) (sN k) "[I" (.ref t) A s s.heap ∧ va_T .int t (sFl k).length (fun j => .int ((sFl k).getD j 0)) A s s.heap := by
    intro k
    by_cases hk : k < 4
    · obtain ⟨t, z1, z2⟩ := va_Tof (f := fun j => .int ((sFl k).getD j 0)) (A := A) (f_ar k hk).2.2 (hF _ (fb _ (f_ar k hk).1)) (va_eqt (hF _ (fb _ (f_ar k hk).2.1))) (fun j hj => va_eqt (hF _ (fb _ (f_el k hk j hj)))) hA
      exact ⟨t, fun _ => ⟨va_Zref (hts _ (tb _ (f_ls k hk).1)) (hts _ (tb _ (f_ls k hk).2)) z1 hA, z2⟩⟩
    · exact ⟨0, fun h => absurd h hk⟩
  obtain ⟨sa, hsa⟩ := Classical.axiomOfChoice hT
  obtain ⟨adK, adV, hSk, hSe⟩ := vk_Sof (N := 12) (tm := kTm) (len := kLen) (byt := kByt) (A := A) (fun i hi => by have := (kl_b i hi).1; omega) (fun i hi => hF _ (fb _ (f_st i hi).1)) (fun i hi => hF _ (fb _ (f_st i hi).2.1)) (fun i hi => hF _ (fb _ (f_st i hi).2.2.1)) (fun i hi => hF _ (fb _ (f_st i hi).2.2.2)) (fun i hi j hj => hF _ (fb _ (f_se i hi j hj))) (fun i j hi hj hij => (f_ne i hi j hj hij).imp (fun h => hF _ (fb _ h)) (fun h => hF _ (fb _ h))) hA
  have hK : va_K ((fun c => [c0, c1, c2, c3, c4, c5, c6, c7, c8].getD c 0, fun c => match c with | 0 => i0 | 1 => i1 | 2 => i2 | 3 => i3 | 4 => i4 | 5 => i5 | 6 => i6 | 7 => i7 | _ => i8) : va_G) vwCl [(cI, .int), (cL, .long), (cS, .object "WindRota$Sheet"), (cT, .object "WindRota$Thing")] s := by
    refine ⟨fun c q hq => ?_, fun k q hq => ?_⟩
    · exact match c, hq with
      | 0, h => by cases h; exact k0
      | 1, h => by cases h; exact k1
      | 2, h => by cases h; exact k2
      | 3, h => by cases h; exact k3
      | 4, h => by cases h; exact k4
      | 5, h => by cases h; exact k5
      | 6, h => by cases h; exact k6
      | 7, h => by cases h; exact k7
      | 8, h => by cases h; exact k8
      | k + 9, h => absurd h (by simp)
    · exact match k, hq with
      | 0, h => by cases h; exact ⟨fun n z => ⟨fun k h => (by cases h), kI, a2, pI, a3⟩, a1⟩
      | 1, h => by cases h; exact ⟨fun n z => ⟨fun k h => (by cases h), kL, b2, pL, b3⟩, b1⟩
      | 2, h => by cases h; exact ⟨fun n z => ⟨fun k h => (by cases h), kS', s3, pS, s4⟩, kS', pS, s3, s4, s1, s5⟩
      | 3, h => by cases h; exact ⟨fun n z => ⟨fun k h => (by cases h), kT, t3, pT, t4⟩, kT, pT, t3, t4, t1, t5⟩
      | k + 4, h => absurd h (by simp)
  subst hAe
  refine ⟨((fun c => [c0, c1, c2, c3, c4, c5, c6, c7, c8].getD c 0, fun c => match c with | 0 => i0 | 1 => i1 | 2 => i2 | 3 => i3 | 4 => i4 | 5 => i5 | 6 => i6 | 7 => i7 | _ => i8), (cI, cL, cS, cT), s.heap.size, sa, adK, adV), rfl, ⟨hK, fun k hk => hsa k hk, ⟨va_Zof (hts _ (tb 539 (by decide +kernel))) (hts _ (tb 12 (by decide +kernel))) (va_eqi (hF _ (fb 37 (by decide +kernel)))) hA, va_Zqof (hts _ (tb 555 (by decide +kernel))) (hts _ (tb 14 (by decide +kernel))) (hF _ (fb 38 (by decide +kernel))) hA⟩, hSk, fun i hi => vk_R.of (hts _ (tb _ (f_sr i hi))) (hSe i hi), va_Nw.of rfl (hts _ (tb 364 (by decide +kernel))), va_Nw.of rfl (hts _ (tb 422 (by decide +kernel))), va_Nw.of rfl (hts _ (tb 296 (by decide +kernel)))⟩, hK, va_AO.of (hts _ (tb 32 (by decide +kernel))), va_AO.of (hts _ (tb 153 (by decide +kernel))), va_Nw.of rfl (hts _ (tb 34 (by decide +kernel))), va_Nw.of rfl (hts _ (tb 88 (by decide +kernel))), va_Nw.of rfl (hts _ (tb 105 (by decide +kernel)))⟩
/-! WHAT IS BORN -/
def m0r : Nat → Int32 := (upd (upd (upd (upd (upd (upd (upd (fun _ => 0) 0 (nI 0)) 1 (nI 1)) 2 (nI 2)) 3 (nI 3)) 4 (nI 4)) 5 (nI 5)) 6 (nI 8))
def m0m : Nat → Int32 := (upd (upd (upd (upd (upd (upd (upd (upd (fun _ => 0) 1 (nI 4)) 4 (nI 0)) 5 (nI 1)) 6 (nI 2)) 7 (nI 3)) 8 (nI 4)) 9 (nI 5)) 10 (nI 8))
def m0s : Nat → Int32 := fun k => if k = 3 then nI 4 else 0
def m0z : Nat → Int32 := fun _ => 0
def m0f (r i : Nat) : Nat → Int32 := match r with
  | 1 => m0s
  | 2 => m0r
  | 16 => (match i with
    | 0 => m0m
    | _ => m0z)
  | _ => m0z
def M0 : gM := (m0f, fun _ _ _ => 0)
def S0 (k : Nat) : Nat := if k = 1 then 4 else if 4 ≤ k ∧ k < 10 then k - 4 else if k = 10 then 8 else 0
def A0 : gA := (S0, S0, 0, fun _ => 0, 0, fun _ => 0, fun _ => 0, fun _ _ => 0, fun _ => 0)
theorem wf_0 : wfS S0 := ⟨by decide, by decide, by decide, by decide, by decide, fun t h => absurd h (by show ¬ t < 0; omega)⟩
theorem wfA_0 : wfA A0 := ⟨wf_0, by decide, fun h => absurd h (by show ¬ (0 : Nat) = 1; decide), by show (0 : Nat) < 2; decide, by show (0 : Nat) ≤ 120; decide, fun j => by show (0 : Nat) < 256; decide, fun s hs => ⟨Or.inl rfl, by show (0 : Nat) ≤ 40; decide⟩⟩
theorem m0_r : ∀ d, d < 7 → M0.1 2 0 d = nI (S0 (4 + d)) := by decide +kernel
theorem m0_m : ∀ k, k < 11 → M0.1 16 0 k = nI (S0 k) := by decide +kernel
theorem cls_0 : clsP M0 A0 := ⟨⟨rfl, rfl, rfl, rfl, m0_r, fun t h => absurd h (by show ¬ t < 0; omega)⟩, fun h => absurd h (by show ¬ (0 : Nat) = 1; decide), rfl, rfl, fun j hj => absurd hj (by show ¬ j < 0; omega), fun s hs => ⟨rfl, rfl, fun _ _ => rfl⟩, fun n hn => rfl⟩
theorem mdl_0 : mdlP M0 A0 := ⟨fun k hk => m0_m k hk, fun h => absurd h (by show ¬ (0 : Nat) = 1; decide), rfl, rfl, fun j hj => absurd hj (by show ¬ j < 0; omega), fun s hs => ⟨rfl, rfl, fun _ _ => rfl⟩, fun n hn => rfl⟩
theorem rf_congr {cA : ClassId} {N : Nat} {f f' : Nat → Option Nat} (h : ∀ j, j < N → f j = f' j) : vp_cell cA (rfA N f) = vp_cell cA (rfA N f') := by
  show arrV cA N (fun j => va_rf (f j)) = arrV cA N (fun j => va_rf (f' j))
  unfold arrV
  have e : (fun j : Fin N => va_rf (f j.val)) = (fun j : Fin N => va_rf (f' j.val)) := funext fun j => by rw [h j.val j.isLt]
  rw [e]
set_option maxHeartbeats 4000000 in
set_option maxRecDepth 100000 in
theorem born_gH {G : gG} {H : Heap} (h : va_P (gD G) vwCl (kW G (e_X7 G 0 ++ e_X8 G 53)) H) : gH G M0 H := by
  have key : ∀ k, k < 64 → va_at (gD G) vwCl (gEl G M0 k) H := fun k hk => match k, hk with
    | 0, _ => h 0 (gEl G M0 0) (by rw [kW_get]; rfl)
    | 1, _ => h 1 (gEl G M0 1) (by rw [kW_get]; rfl)
    | 2, _ => h 2 (gEl G M0 2) (by rw [kW_get]; rfl)
    | 3, _ => by
      have h3 : H[gb G + 3]? = some (vp_cell (gcT G) (rfA 8 (va_up (va_up (va_up (va_up (va_up (va_up (va_up (va_up (fun _ => none) 0 (some (gb G + (0 + 1 + 3)))) 1 (some (gb G + (0 + 1 + 4)))) 2 (some (gb G + (0 + 1 + 5)))) 3 (some (gb G + (0 + 1 + 6)))) 4 (some (gb G + (0 + 1 + 7)))) 5 (some (gb G + (0 + 1 + 8)))) 6 (some (gb G + (0 + 1 + 9)))) 7 (some (gb G + (0 + 1 + 10)))))) := h 3 (gb G + 3, .inl (gcT G, rfA 8 (va_up (va_up (va_up (va_up (va_up (va_up (va_up (va_up (fun _ => none) 0 (some (gb G + (0 + 1 + 3)))) 1 (some (gb G + (0 + 1 + 4)))) 2 (some (gb G + (0 + 1 + 5)))) 3 (some (gb G + (0 + 1 + 6)))) 4 (some (gb G + (0 + 1 + 7)))) 5 (some (gb G + (0 + 1 + 8)))) 6 (some (gb G + (0 + 1 + 9)))) 7 (some (gb G + (0 + 1 + 10)))))) (by rw [kW_get]; rfl)
      show H[gb G + 3]? = some (vp_cell (gcT G) (rfA 8 (fun k => some (ad G 4 (8 * 0 + k)))))
      rw [h3]
      exact congrArg some (rf_congr (fun j hj => by rcases (show j = 0 ∨ j = 1 ∨ j = 2 ∨ j = 3 ∨ j = 4 ∨ j = 5 ∨ j = 6 ∨ j = 7 by omega) with rfl | rfl | rfl | rfl | rfl | rfl | rfl | rfl <;> rfl))
    | 4, _ => h 4 (gEl G M0 4) (by rw [kW_get]; rfl)
    | 5, _ => h 5 (gEl G M0 5) (by rw [kW_get]; rfl)
    | 6, _ => h 6 (gEl G M0 6) (by rw [kW_get]; rfl)
    | 7, _ => h 7 (gEl G M0 7) (by rw [kW_get]; rfl)
    | 8, _ => h 8 (gEl G M0 8) (by rw [kW_get]; rfl)
    | 9, _ => h 9 (gEl G M0 9) (by rw [kW_get]; rfl)
    | 10, _ => h 10 (gEl G M0 10) (by rw [kW_get]; rfl)
    | 11, _ => h 11 (gEl G M0 11) (by rw [kW_get]; rfl)
    | 12, _ => h 12 (gEl G M0 12) (by rw [kW_get]; rfl)
    | 13, _ => h 13 (gEl G M0 13) (by rw [kW_get]; rfl)
    | 14, _ => by
      have h3 : H[gb G + 14]? = some (vp_cell (gcT G) (rfA 8 (va_up (va_up (va_up (va_up (va_up (va_up (va_up (va_up (fun _ => none) 0 (some (gb G + (0 + 12 + 3)))) 1 (some (gb G + (0 + 12 + 4)))) 2 (some (gb G + (0 + 12 + 5)))) 3 (some (gb G + (0 + 12 + 6)))) 4 (some (gb G + (0 + 12 + 7)))) 5 (some (gb G + (0 + 12 + 8)))) 6 (some (gb G + (0 + 12 + 9)))) 7 (some (gb G + (0 + 12 + 10)))))) := h 14 (gb G + 14, .inl (gcT G, rfA 8 (va_up (va_up (va_up (va_up (va_up (va_up (va_up (va_up (fun _ => none) 0 (some (gb G + (0 + 12 + 3)))) 1 (some (gb G + (0 + 12 + 4)))) 2 (some (gb G + (0 + 12 + 5)))) 3 (some (gb G + (0 + 12 + 6)))) 4 (some (gb G + (0 + 12 + 7)))) 5 (some (gb G + (0 + 12 + 8)))) 6 (some (gb G + (0 + 12 + 9)))) 7 (some (gb G + (0 + 12 + 10)))))) (by rw [kW_get]; rfl)
      show H[gb G + 14]? = some (vp_cell (gcT G) (rfA 8 (fun k => some (ad G 4 (8 * 1 + k)))))
      rw [h3]
      exact congrArg some (rf_congr (fun j hj => by rcases (show j = 0 ∨ j = 1 ∨ j = 2 ∨ j = 3 ∨ j = 4 ∨ j = 5 ∨ j = 6 ∨ j = 7 by omega) with rfl | rfl | rfl | rfl | rfl | rfl | rfl | rfl <;> rfl))
    | 15, _ => h 15 (gEl G M0 15) (by rw [kW_get]; rfl)
    | 16, _ => h 16 (gEl G M0 16) (by rw [kW_get]; rfl)
    | 17, _ => h 17 (gEl G M0 17) (by rw [kW_get]; rfl)
    | 18, _ => h 18 (gEl G M0 18) (by rw [kW_get]; rfl)
    | 19, _ => h 19 (gEl G M0 19) (by rw [kW_get]; rfl)
    | 20, _ => h 20 (gEl G M0 20) (by rw [kW_get]; rfl)
    | 21, _ => h 21 (gEl G M0 21) (by rw [kW_get]; rfl)
    | 22, _ => h 22 (gEl G M0 22) (by rw [kW_get]; rfl)
    | 23, _ => h 23 (gEl G M0 23) (by rw [kW_get]; rfl)
    | 24, _ => h 24 (gEl G M0 24) (by rw [kW_get]; rfl)
    | 25, _ => by
      have h3 : H[gb G + 25]? = some (vp_cell (gcT G) (rfA 8 (va_up (va_up (va_up (va_up (va_up (va_up (va_up (va_up (fun _ => none) 0 (some (gb G + (0 + 23 + 3)))) 1 (some (gb G + (0 + 23 + 4)))) 2 (some (gb G + (0 + 23 + 5)))) 3 (some (gb G + (0 + 23 + 6)))) 4 (some (gb G + (0 + 23 + 7)))) 5 (some (gb G + (0 + 23 + 8)))) 6 (some (gb G + (0 + 23 + 9)))) 7 (some (gb G + (0 + 23 + 10)))))) := h 25 (gb G + 25, .inl (gcT G, rfA 8 (va_up (va_up (va_up (va_up (va_up (va_up (va_up (va_up (fun _ => none) 0 (some (gb G + (0 + 23 + 3)))) 1 (some (gb G + (0 + 23 + 4)))) 2 (some (gb G + (0 + 23 + 5)))) 3 (some (gb G + (0 + 23 + 6)))) 4 (some (gb G + (0 + 23 + 7)))) 5 (some (gb G + (0 + 23 + 8)))) 6 (some (gb G + (0 + 23 + 9)))) 7 (some (gb G + (0 + 23 + 10)))))) (by rw [kW_get]; rfl)
      show H[gb G + 25]? = some (vp_cell (gcT G) (rfA 8 (fun k => some (ad G 4 (8 * 2 + k)))))
      rw [h3]
      exact congrArg some (rf_congr (fun j hj => by rcases (show j = 0 ∨ j = 1 ∨ j = 2 ∨ j = 3 ∨ j = 4 ∨ j = 5 ∨ j = 6 ∨ j = 7 by omega) with rfl | rfl | rfl | rfl | rfl | rfl | rfl | rfl <;> rfl))
    | 26, _ => h 26 (gEl G M0 26) (by rw [kW_get]; rfl)
    | 27, _ => h 27 (gEl G M0 27) (by rw [kW_get]; rfl)
    | 28, _ => h 28 (gEl G M0 28) (by rw [kW_get]; rfl)
    | 29, _ => h 29 (gEl G M0 29) (by rw [kW_get]; rfl)
    | 30, _ => h 30 (gEl G M0 30) (by rw [kW_get]; rfl)
    | 31, _ => h 31 (gEl G M0 31) (by rw [kW_get]; rfl)
    | 32, _ => h 32 (gEl G M0 32) (by rw [kW_get]; rfl)
    | 33, _ => h 33 (gEl G M0 33) (by rw [kW_get]; rfl)
    | 34, _ => h 34 (gEl G M0 34) (by rw [kW_get]; rfl)
    | 35, _ => h 35 (gEl G M0 35) (by rw [kW_get]; rfl)
    | 36, _ => h 36 (gEl G M0 36) (by rw [kW_get]; rfl)
    | 37, _ => h 37 (gEl G M0 37) (by rw [kW_get]; rfl)
    | 38, _ => h 38 (gEl G M0 38) (by rw [kW_get]; rfl)
    | 39, _ => h 39 (gEl G M0 39) (by rw [kW_get]; rfl)
    | 40, _ => h 40 (gEl G M0 40) (by rw [kW_get]; rfl)
    | 41, _ => h 41 (gEl G M0 41) (by rw [kW_get]; rfl)
    | 42, _ => h 42 (gEl G M0 42) (by rw [kW_get]; rfl)
    | 43, _ => by
      have h3 : H[gb G + 43]? = some (vp_cell (gcS G) (rfA 4 (va_up (va_up (va_up (va_up (fun _ => none) 0 (some (gb G + (0 + 44)))) 1 (some (gb G + (0 + 46)))) 2 (some (gb G + (0 + 48)))) 3 (some (gb G + (0 + 50)))))) := h 43 (gb G + 43, .inl (gcS G, rfA 4 (va_up (va_up (va_up (va_up (fun _ => none) 0 (some (gb G + (0 + 44)))) 1 (some (gb G + (0 + 46)))) 2 (some (gb G + (0 + 48)))) 3 (some (gb G + (0 + 50)))))) (by rw [kW_get]; rfl)
      show H[gb G + 43]? = some (vp_cell (gcS G) (rfA 4 (fun k => some (ad G 12 k))))
      rw [h3]
      exact congrArg some (rf_congr (fun j hj => by rcases (show j = 0 ∨ j = 1 ∨ j = 2 ∨ j = 3 by omega) with rfl | rfl | rfl | rfl <;> rfl))
    | 44, _ => h 44 (gEl G M0 44) (by rw [kW_get]; rfl)
    | 45, _ => h 45 (gEl G M0 45) (by rw [kW_get]; rfl)
    | 46, _ => h 46 (gEl G M0 46) (by rw [kW_get]; rfl)
    | 47, _ => h 47 (gEl G M0 47) (by rw [kW_get]; rfl)
    | 48, _ => h 48 (gEl G M0 48) (by rw [kW_get]; rfl)
    | 49, _ => h 49 (gEl G M0 49) (by rw [kW_get]; rfl)
    | 50, _ => h 50 (gEl G M0 50) (by rw [kW_get]; rfl)
    | 51, _ => h 51 (gEl G M0 51) (by rw [kW_get]; rfl)
    | 52, _ => h 52 (gEl G M0 52) (by rw [kW_get]; rfl)
    | 53, _ => h 53 (gEl G M0 53) (by rw [kW_get]; rfl)
    | 54, _ => h 54 (gEl G M0 54) (by rw [kW_get]; rfl)
    | 55, _ => h 55 (gEl G M0 55) (by rw [kW_get]; rfl)
    | 56, _ => h 56 (gEl G M0 56) (by rw [kW_get]; rfl)
    | 57, _ => h 57 (gEl G M0 57) (by rw [kW_get]; rfl)
    | 58, _ => h 58 (gEl G M0 58) (by rw [kW_get]; rfl)
    | 59, _ => h 59 (gEl G M0 59) (by rw [kW_get]; rfl)
    | 60, _ => h 60 (gEl G M0 60) (by rw [kW_get]; rfl)
    | 61, _ => h 61 (gEl G M0 61) (by rw [kW_get]; rfl)
    | 62, _ => h 62 (gEl G M0 62) (by rw [kW_get]; rfl)
    | 63, _ => h 63 (gEl G M0 63) (by rw [kW_get]; rfl)
    | k + 64, hk => absurd hk (by omega)
  intro k q hq
  rw [gWl_get] at hq
  split at hq
  · cases hq
    exact key k (by assumption)
  · cases hq
