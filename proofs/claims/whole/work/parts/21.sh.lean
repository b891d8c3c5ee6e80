theorem r_ldcw {G : gG} {cc : ByteArray} {own : String} {nL d : Nat} {rt : Option FieldType} {Q : Option Value → gM → Prop} {P : gP} {pc : Nat} {ls : List (Option Value)} {st : List Value} {M : gM} (hR : Bd G cc own nL d rt Q P) {i : Nat} {x : Int32} (hw : Cond.constant own i x ∈ GT) (hd : decode cc pc = .ok (.ldc_w i, 3)) (k : P (pc + 3) ls (.int x :: st) M) : P pc ls st M := by
  obtain ⟨p, l, e, R, s, m, args, below, meth, c, cells, slots, QQ, hx, hb, hml, hown, hts, hroom, hS0, hP, hret⟩ := hR
  exact (hP _ _ _ _).mpr fun H locs lsA h1 h2 h3 => lv_ldcw hx hb hown (hts _ hw) hd ((hP _ _ _ _).mp k H locs lsA h1 h2 h3)
/-! tape, sheets and images of the class -/
theorem seaP_rows {M M' : gM} {q : Nat} {S : Nat → Nat} (h : ∀ r, (r = 1 ∨ r = 2 ∨ r = 4) → M'.1 r = M.1 r) (c : seaP M q S) : seaP M' q S := by
  unfold seaP at *
  rw [h 1 (by omega), h 2 (by omega), h 4 (by omega)]
  exact c
theorem clsP_sh {M M' : gM} {A : gA} {b z : Nat → Nat} {n : Nat → Nat → Int64} (h : clsP M A) (hr : ∀ r, ¬ r = 12 → r < 15 → (∀ i, ¬ scr r i → M'.1 r i = M.1 r i)) (h3 : aS A 3 ≤ 8) (hK : ak A = 1 → aK A 3 ≤ 8) (hs : ∀ s, s < 4 → M'.1 12 s 0 = nI (b s) ∧ M'.1 12 s 1 = nI (z s) ∧ ∀ j, j < 40 → M'.2 13 s j = n s j) : clsP M' (sB A b z n) := by
  obtain ⟨c1, c2, c3, c4, c5, c6, c7⟩ := h
  refine ⟨?_, ?_, ?_, ?_, ?_, hs, ?_⟩
  · obtain ⟨a, b, c, d, e, f⟩ := c1
    have e1 := hr 1 (by omega) (by omega) 0 (by unfold scr; omega)
    have e2 := hr 2 (by omega) (by omega) 0 (by unfold scr; omega)
    exact ⟨by rw [e1]; exact a, by rw [e1]; exact b, by rw [e1]; exact c, by rw [e1]; exact d, fun x hx => by rw [e2]; exact e x hx, fun t ht w hw => by have ht : t < aS A 3 := ht; rw [hr 4 (by omega) (by omega) (8 * 0 + t) (by unfold scr; omega)]; exact f t ht w hw⟩
  · intro q
    obtain ⟨a, b, c, d, e, f⟩ := c2 q
    have k8 := hK q
    have e1 := hr 1 (by omega) (by omega) 2 (by unfold scr; omega)
    have e2 := hr 2 (by omega) (by omega) 2 (by unfold scr; omega)
    exact ⟨by rw [e1]; exact a, by rw [e1]; exact b, by rw [e1]; exact c, by rw [e1]; exact d, fun x hx => by rw [e2]; exact e x hx, fun t ht w hw => by have ht : t < aK A 3 := ht; rw [hr 4 (by omega) (by omega) (8 * 2 + t) (by unfold scr; omega)]; exact f t ht w hw⟩
  · rw [hr 0 (by omega) (by omega) 0 (by unfold scr; omega)]; exact c3
  · rw [hr 8 (by omega) (by omega) 0 (by unfold scr; omega)]; exact c4
  · intro j hj; rw [hr 9 (by omega) (by omega) 0 (by unfold scr; omega)]; exact c5 j hj
  · intro k hk; rw [hr 14 (by omega) (by omega) 0 (by unfold scr; omega)]; exact c7 k hk
theorem clsP_tape {M M' : gM} {A : gA} {T : Nat → Nat} {l : Nat} (h : clsP M A) (hr : ∀ r, ¬ r = 8 → ¬ r = 9 → M'.1 r = M.1 r) (h2 : M'.2 = M.2) (hl : M'.1 8 0 1 = nI l) (hT : ∀ j, j < l → M'.1 9 0 j = nI (T j)) : clsP M' (sT A T l) := by
  obtain ⟨c1, c2, c3, c4, c5, c6, c7⟩ := h
  refine ⟨seaP_rows (fun r hh => hr r (by omega) (by omega)) c1, fun q => seaP_rows (fun r hh => hr r (by omega) (by omega)) (c2 q), ?_, hl, hT, ?_, ?_⟩
  · rw [hr 0 (by omega) (by omega)]; exact c3
  · intro s hs; rw [hr 12 (by omega) (by omega), h2]; exact c6 s hs
  · intro n hn; rw [hr 14 (by omega) (by omega)]; exact c7 n hn
theorem clsP_kept {M : gM} {A : gA} {S : Nat → Nat} (h : clsP M A) (h3 : aS A 3 ≤ 8) (hS : S 3 ≤ 8) : clsP (seti (putSea M 2 S) 0 0 3 (nI 1)) (sK A S 1) := by
  obtain ⟨c1, c2, c3, c4, c5, c6, c7⟩ := h
  have e : ∀ r i k, ¬ r = 0 → ¬ r = 1 → ¬ r = 2 → ¬ r = 4 → (seti (putSea M 2 S) 0 0 3 (nI 1)).1 r i k = M.1 r i k := fun r i k z a b c => by rw [seti_r, if_neg (fun y => z y.1)]; exact putSn_far M 2 S (by omega) (by omega) (by omega) k
  refine ⟨seaP_rows (fun r hh => seti_row _ (by omega)) ((seaP_far (by omega) hS h3).mpr c1), fun _ => seaP_rows (fun r hh => seti_row _ (by omega)) (putSea_P M 2 S), ?_, ?_, ?_, ?_, ?_⟩
  · simp [seti_r]; rfl
  · rw [e _ _ _ (by omega) (by omega) (by omega) (by omega)]; exact c4
  · intro j hj; rw [e _ _ _ (by omega) (by omega) (by omega) (by omega)]; exact c5 j hj
  · intro s hs; rw [e _ _ _ (by omega) (by omega) (by omega) (by omega), e _ _ _ (by omega) (by omega) (by omega) (by omega)]; exact c6 s hs
  · intro n hn; rw [e _ _ _ (by omega) (by omega) (by omega) (by omega)]; exact c7 n hn
theorem clsP_tear {M : gM} {A : gA} (h : clsP M A) : clsP (seti M 0 0 3 (nI 0)) (sK A (aK A) 0) := by
  obtain ⟨c1, c2, c3, c4, c5, c6, c7⟩ := h
  refine ⟨seaP_rows (fun r hh => seti_row _ (by omega)) c1, fun q => absurd q (by show ¬ (0 : Nat) = 1; decide), ?_, ?_, ?_, ?_, ?_⟩
  · simp [seti_r]; rfl
  · rw [seti_row M (by omega)]; exact c4
  · intro j hj; rw [seti_row M (by omega)]; exact c5 j hj
  · intro s hs; rw [seti_row M (by omega)]; exact c6 s hs
  · intro n hn; rw [seti_row M (by omega)]; exact c7 n hn
theorem tI_n (y : Int32) : y.toInt = if 2 * y.toBitVec.toNat < 2 ^ 32 then (y.toBitVec.toNat : Int) else (y.toBitVec.toNat : Int) - 2 ^ 32 := BitVec.toInt_eq_toNat_cond y.toBitVec
theorem byte_t (x : Int32) {k : Nat} (hk : k < 4) : (x >>> (nI (8 * k) &&& 31)) &&& nI 255 = nI (x.toBitVec.toNat / 2 ^ (8 * k) % 256) := by
  rw [pk_and _ (m := nI 255) 8 (by decide)]
  congr 1
  have h := pk_shr x (nI (8 * k) &&& 31) (8 * k) (by obtain rfl | rfl | rfl | rfl : k = 0 ∨ k = 1 ∨ k = 2 ∨ k = 3 := by omega
                                                     all_goals decide)
  rw [tI_n, tI_n x, Int.shiftRight_eq_div_pow] at h
  have b1 := x.toBitVec.isLt
  have b2 := (x >>> (nI (8 * k) &&& 31)).toBitVec.isLt
  generalize (x >>> (nI (8 * k) &&& 31)).toBitVec.toNat = u at *
  generalize x.toBitVec.toNat = v at *
  obtain rfl | rfl | rfl | rfl : k = 0 ∨ k = 1 ∨ k = 2 ∨ k = 3 := by omega
  all_goals (simp at h ⊢; split at h <;> split at h <;> omega)
theorem sub1_e (n : Nat) : nI n - nI 1 = nI n + (-1) := by
  rw [Int32.sub_eq_add_neg]
  congr 1
theorem l2i_t {v : Int64} (h0 : 0 ≤ v.toInt) (h1 : v.toInt ≤ 8) : v.toInt32 = nI v.toInt.toNat := by
  rw [cv_eq, nI_toInt (by omega), Int64.toInt_toInt32]
  have : (v.toInt).bmod (2 ^ 32) = v.toInt := by
    rw [Int.bmod_eq_of_le (by omega) (by omega)]
  rw [this]
  omega
theorem i64_0 : (0 : Int64).toInt = 0 := by decide
theorem i64_8 : (8 : Int64).toInt = 8 := by decide
theorem setl_putTh (M : gM) (t k c f s r i j : Nat) (x : Int64) : setl (putTh M t k c f s) r i j x = putTh (setl M r i j x) t k c f s := rfl
theorem isBk_f {S : Nat → Nat} {t : Nat} {f : Nat → Int64} {i : Nat} (h : ¬ f i = lN (thg (dayN i S) t 3)) {z : Nat} (hz : i < z) : ¬ isBk S t f z = true := by
  induction z with
  | zero => omega
  | succ z ih =>
    unfold isBk
    intro q
    rw [Bool.and_eq_true, decide_eq_true_eq] at q
    by_cases e : i = z
    · subst e; exact h q.2
    · exact ih (by omega) q.1
theorem bit_t : ∀ s, s < 256 → ∀ a b c d e : Int32, True := fun _ _ _ _ _ _ _ => trivial
def bitC (x : Int32) : Int32 :=
  let a := x - ((x.toUInt32 >>> ((nI 1).toUInt32 &&& Int32.toUInt32 31)).toInt32 &&& 1431655765)
  let b := (a &&& 858993459) + ((a.toUInt32 >>> ((nI 2).toUInt32 &&& Int32.toUInt32 31)).toInt32 &&& 858993459)
  let c := (b + (b.toUInt32 >>> ((nI 4).toUInt32 &&& Int32.toUInt32 31)).toInt32) &&& 252645135
  let d := c + (c.toUInt32 >>> ((nI 8).toUInt32 &&& Int32.toUInt32 31)).toInt32
  let e := d + (d.toUInt32 >>> ((nI 16).toUInt32 &&& Int32.toUInt32 31)).toInt32
  e &&& nI 63
theorem bitC_t : ∀ s, s < 256 → bitC (nI s) = nI (cntB s 8) ∧ cntB s 8 ≤ 8 := by decide +kernel
theorem fsum_ext {f g : Nat → Int32} (n : Nat) (h : ∀ k, k < n → f k = g k) : fsum f n = fsum g n := by
  induction n with
  | zero => rfl
  | succ n ih => unfold fsum; rw [ih (fun k hk => h k (by omega)), h n (by omega)]
theorem vg_s {α : Type} (f : Nat → α) (k : Nat) (v : α) : va_up f k v k = v := by simp [va_up]
theorem vg_o {α : Type} {f : Nat → α} {k j : Nat} {v : α} (h : ¬ j = k) : va_up f k v j = f j := by simp [va_up, h]
theorem layS_3 (S : Nat → Nat) (f : Nat → Int64) (n : Nat) : (layS S f n).2 3 = S 3 := by
  induction n with
  | zero => rfl
  | succ n ih =>
    unfold layS
    split
    · show va_up _ (4 + n) _ 3 = _; rw [vu_o (by omega), ih]
    · exact ih
theorem layS_le (S : Nat → Nat) (f : Nat → Int64) (n : Nat) : (layS S f n).1 ≤ n := by
  induction n with
  | zero => exact Nat.le_refl 0
  | succ n ih =>
    unfold layS
    split
    · show _ + 1 ≤ n + 1; omega
    · omega
theorem wf_layS {S : Nat → Nat} (h : wfS S) (f : Nat → Int64) (n : Nat) (hn : n ≤ 7) : wfS (layS S f n).2 := by
  induction n with
  | zero => exact h
  | succ n ih =>
    unfold layS
    split
    · exact wf_rota (ih (by omega)) (by omega) (by omega)
    · exact ih (by omega)
theorem putTh_id {M : gM} {t k c f s : Nat} (hk : M.1 4 t 0 = nI k) (hc : M.1 4 t 1 = nI c) (hf : M.1 4 t 2 = nI f) (hs : M.1 4 t 3 = nI s) : putTh M t k c f s = M := by
  refine gM_ext (fun r i j => ?_) rfl
  rw [putTh_r]
  split
  · rename_i z; obtain ⟨rfl, rfl, rfl⟩ := z; exact hs.symm
  split
  · rename_i z; obtain ⟨rfl, rfl, rfl⟩ := z; exact hf.symm
  split
  · rename_i z; obtain ⟨rfl, rfl, rfl⟩ := z; exact hc.symm
  split
  · rename_i z; obtain ⟨rfl, rfl, rfl⟩ := z; exact hk.symm
  · rfl
theorem blow_lo {S S' : Nat → Nat} (h : ∀ x, x < 11 → S x = S' x) (d : Nat) : blow S' d = blow S d := by
  unfold blow
  have := Nat.mod_lt d (show 0 < 7 by decide)
  rw [h (4 + d % 7) (by omega), h 2 (by omega)]
theorem putTh_put (M : gM) (t k c f s k' c' f' s' : Nat) : putTh (putTh M t k c f s) t k' c' f' s' = putTh M t k' c' f' s' := by
  refine gM_ext (fun r i j => ?_) rfl
  rw [putTh_r, putTh_r, putTh_r]
  split
  · rfl
  split
  · rfl
  split
  · rfl
  split
  · rfl
  · rfl
theorem putTh_kf (M : gM) (t k c f s k' f' : Nat) : seti (seti (putTh M t k c f s) 4 t 0 (nI k')) 4 t 2 (nI f') = putTh M t k' c f' s := by
  refine gM_ext (fun r i j => ?_) rfl
  rw [seti_r, seti_r, putTh_r, putTh_r]
  by_cases z : r = 4 ∧ i = t
  · obtain ⟨rfl, rfl⟩ := z
    by_cases j1 : j = 0
    · subst j1; simp
    · by_cases j3 : j = 2
      · subst j3; simp
      · simp [j1, j3]
  · have hz : ∀ n, ¬ (r = 4 ∧ i = t ∧ j = n) := fun n e => z ⟨e.1, e.2.1⟩
    simp only [if_neg (hz _)]
theorem kfS_lo {S : Nat → Nat} {t k x : Nat} (h : x < 11) : kfS S t k x = S x := by unfold kfS; rw [vu_o (by omega), vu_o (by omega)]
theorem kfS_k (S : Nat → Nat) (t k : Nat) : thg (kfS S t k) t 0 = k / 8 := by unfold kfS thg; rw [vu_o (by omega)]; exact vu_s S (11 + 4 * t) (k / 8)
theorem kfS_c (S : Nat → Nat) (t k : Nat) : thg (kfS S t k) t 1 = thg S t 1 := by unfold kfS thg; rw [vu_o (by omega), vu_o (by omega)]
theorem kfS_f (S : Nat → Nat) (t k : Nat) : thg (kfS S t k) t 2 = k % 8 := by unfold kfS thg; rw [vu_s]
theorem kfS_s (S : Nat → Nat) (t k : Nat) : thg (kfS S t k) t 3 = thg S t 3 := by unfold kfS thg; rw [vu_o (by omega), vu_o (by omega)]
theorem wf_kfS {S : Nat → Nat} (h : wfS S) {t k : Nat} (ht : t < S 3) (hk : k < 48) : wfS (kfS S t k) := by
  have h1 := wf_th (w := 0) (v := k / 8) h ht (by decide) ⟨fun _ => by omega, fun h => absurd h (by decide), fun h => absurd h (by decide), fun h => absurd h (by decide)⟩
  rw [Nat.add_zero] at h1
  exact wf_th (w := 2) h1 (by rw [vu_o (by omega)]; exact ht) (by decide) ⟨fun h => absurd h (by decide), fun h => absurd h (by decide), fun _ => by omega, fun h => absurd h (by decide)⟩
theorem rdN_le (S : Nat → Nat) (t : Nat) (f : Nat → Int64) (z k : Nat) : rdN S t f z k ≤ k := by
  induction k with
  | zero => exact Nat.le_refl 0
  | succ k ih => unfold rdN; split <;> omega
