/-! TEXTS: String's rows; the contracts of String.length, charAt; isWord -/
theorem Ct.ofA {G : gG} {Y : gY} {dd : Nat} {vs : List Value} {M : gM} {Q : Option Value → gM → Prop} {C : String} (hy : plainName Y.1.cls = true) {k : Nat} {ls0 : List (Option Value)} (h0 : entL vs ++ List.replicate k none = ls0) (hn : ls0.length = Y.2.2.1) (hrt : Y.2.2.2 = some (.object C))
    (body : ∀ P : gP, Bd G Y.2.1 Y.1.cls Y.2.2.1 dd Y.2.2.2 Q P → (∀ (pc : Nat) (ls : List (Option Value)) (a : Nat) (M : gM), decode Y.2.1 pc = .ok (.areturn, 1) → Q (some (.ref a)) M → P pc ls [.ref a] M) → P 0 ls0 [] M) : Ct G Y dd vs M Q := by
  intro l
  refine Met.ofW (cc := Y.2.1) (maxL := Y.2.2.1) (ret := Y.2.2.2) hy rfl ?_
  intro p e s m args below meth c s₁ B hml hv
  obtain ⟨rfl, hgS, hgH⟩ := hv
  have hts := atoms_spec (ws := wsY Y) B.pre
  have hown : s.vm.findClass Y.1.cls = some m.cls := findClass_of_methodNamed B.named
  have hlocks := B.notSynchronized
  have hx := B.exec
  have hb := B.bytes
  have hr := B.returns
  rw [lg_entry_eq]
  have key := body (fun pc ls st M => ∀ (H : Heap) (locs : List Loc) (lsA : Array Slot), hasL lsA Y.2.2.1 ls → gH G M H → va_S (fr G) s.heap H locs → W p l e (headSpec (wsY Y) (rmD dd)).room s m vs.toArray below meth c H locs 0 0 (MQ below (fun _ st oc t => ∃ (v : Option Value) (M' : gM), oc = .returned v ∧ Q v M' ∧ gH G M' t.heap ∧ va_F (fr G) st t) vs.toArray s 0 0 (fr G)) (F0 m pc lsA st))
    ⟨p, l, e, (headSpec (wsY Y) (rmD dd)).room, s, m, vs.toArray, below, meth, c, 0, 0, _, hx, hb, hml, hown, fun w hw => hts w (List.mem_cons_of_mem _ hw), ⟨Nat.le_refl dd, Nat.le_refl (30 * dd), Nat.le_refl 0, Nat.le_refl 0⟩, hgS, fun pc ls st M => Iff.rfl, ?_, ?_, ?_⟩ ?_
  · exact key s.heap [] _ (hasL_entry vs h0 hn) hgH va_S.rf
  · intro pc ls x M' ty hty hd hnar hQ H locs lsA h1 h2 h3
    exact W.zret (ty := ty) hx hb (by rw [hr]; exact hty) hnar (fun t ht hW => ⟨_, M', rfl, hQ, by rw [ht]; exact h2, h3.F ht⟩) h3.2.2 hd
  · intro pc ls x M' hty hd hQ H locs lsA h1 h2 h3
    exact W.lret hx hb (by rw [hr]; exact hty) (fun t ht hW => ⟨_, M', rfl, hQ, by rw [ht]; exact h2, h3.F ht⟩) h3.2.2 hd
  · intro pc ls M' hty hd hQ H locs lsA h1 h2 h3
    exact W.vret hx hb (by rw [hr]; exact hty) (fun t ht hW => ⟨_, M', rfl, hQ, by rw [ht]; exact h2, h3.F ht⟩) h3.2.2 hd
  · intro pc ls a M' hd hQ H locs lsA h1 h2 h3
    exact W.aret hx hb (by rw [hr]; exact hrt) (Or.inl ⟨_, rfl⟩) (Or.inr ⟨_, rfl⟩) (fun t ht hW => ⟨_, M', rfl, hQ, by rw [ht]; exact h2, h3.F ht⟩) h3.2.2 hd
section Rows
variable {G : gG} {cc : ByteArray} {own : String} {nL d : Nat} {rt : Option FieldType} {Q : Option Value → gM → Prop} {P : gP} {pc : Nat} {ls : List (Option Value)} {st : List Value} {M : gM}
theorem r_nret (hR : Bd G cc own nL d rt Q P) {ty : FieldType} (hty : rt = some ty) {x : Int32} (hd : decode cc pc = .ok (.ireturn, 1)) (hn : narrow ty (.int x) = .int x) (hq : Q (some (.int x)) M) : P pc ls [.int x] M := by
  obtain ⟨p, l, e, R, s, m, args, below, meth, c, cells, slots, QQ, hx, hb, hml, hown, hts, hroom, hS0, hP, hret⟩ := hR
  exact hret.1 pc ls x M ty hty hd hn hq
theorem r_sval (hR : Bd G cc RJ0 nL d rt Q P) {i : Nat} (hi : i < 12) (hd : decode cc pc = .ok (.getfield 9, 3)) (kk : P (pc + 3) ls (.ref (gkv G i) :: st) M) : P pc ls (.ref (gks G i) :: st) M := by
  obtain ⟨p, l, e, R, s, m, args, below, meth, c, cells, slots, QQ, hx, hb, hml, hown, hts, hroom, hS0, hP, hret⟩ := hR
  exact (hP _ _ _ _).mpr fun H locs lsA h1 h2 h3 => vk_getf hx hb (hS0.2.2.2.1.1 i hi).2.2.1 h3 hown (hts _ jl_J0_9) (fun _ h => h) hd ((hP _ _ _ _).mp kk H locs lsA h1 h2 h3)
theorem r_scod (hR : Bd G cc RJ0 nL d rt Q P) {i : Nat} (hi : i < 12) (hd : decode cc pc = .ok (.getfield 15, 3)) (kk : P (pc + 3) ls (.int (nI 0) :: st) M) : P pc ls (.ref (gks G i) :: st) M := by
  obtain ⟨p, l, e, R, s, m, args, below, meth, c, cells, slots, QQ, hx, hb, hml, hown, hts, hroom, hS0, hP, hret⟩ := hR
  exact (hP _ _ _ _).mpr fun H locs lsA h1 h2 h3 => vk_getf hx hb (hS0.2.2.2.1.1 i hi).2.1 h3 hown (hts _ jl_J0_15) (fun _ h => h) hd ((hP _ _ _ _).mp kk H locs lsA h1 h2 h3)
theorem r_comp (hR : Bd G cc RJ0 nL d rt Q P) (hd : decode cc pc = .ok (.getstatic 38, 3)) (kk : P (pc + 3) ls (.int (nI 1) :: st) M) : P pc ls st M := by
  obtain ⟨p, l, e, R, s, m, args, below, meth, c, cells, slots, QQ, hx, hb, hml, hown, hts, hroom, hS0, hP, hret⟩ := hR
  exact (hP _ _ _ _).mpr fun H locs lsA h1 h2 h3 => va_gets hx hb hS0.2.2.1.1 h3 hown (hts _ jl_J0_38) (fun _ h => h) hd ((hP _ _ _ _).mp kk H locs lsA h1 h2 h3)
theorem r_sioo (hR : Bd G cc RJ0 nL d rt Q P) (hd : decode cc pc = .ok (.getstatic 1053, 3)) (k1 : P (pc + 3) ls (.null :: st) M) (k2 : ∀ t : Nat, P (pc + 3) ls (.ref t :: st) M) : P pc ls st M := by
  obtain ⟨p, l, e, R, s, m, args, below, meth, c, cells, slots, QQ, hx, hb, hml, hown, hts, hroom, hS0, hP, hret⟩ := hR
  rcases hS0.2.2.1.2 with hz | ⟨t, hz⟩
  · exact (hP _ _ _ _).mpr fun H locs lsA h1 h2 h3 => va_gets hx hb hz h3 hown (hts _ jl_J0_1053) (fun _ h => h) hd ((hP _ _ _ _).mp k1 H locs lsA h1 h2 h3)
  · exact (hP _ _ _ _).mpr fun H locs lsA h1 h2 h3 => va_gets hx hb hz h3 hown (hts _ jl_J0_1053) (fun _ h => h) hd ((hP _ _ _ _).mp (k2 t) H locs lsA h1 h2 h3)
theorem r_klen (hR : Bd G cc own nL d rt Q P) {i : Nat} (hi : i < 12) (hd : decode cc pc = .ok (.arraylength, 1)) (kk : P (pc + 1) ls (.int (nI (kLen.getD i 0)) :: st) M) : P pc ls (.ref (gkv G i) :: st) M := by
  obtain ⟨p, l, e, R, s, m, args, below, meth, c, cells, slots, QQ, hx, hb, hml, hown, hts, hroom, hS0, hP, hret⟩ := hR
  exact (hP _ _ _ _).mpr fun H locs lsA h1 h2 h3 => va_tlen hx hb (hS0.2.2.2.1.1 i hi).2.2.2 h3 rfl hd ((hP _ _ _ _).mp kk H locs lsA h1 h2 h3)
theorem r_kald (hR : Bd G cc own nL d rt Q P) {i j : Nat} (hi : i < 12) (hj : j < kLen.getD i 0) (hn : kLen.getD i 0 < 2 ^ 31) (hd : decode cc pc = .ok (.baload, 1)) (kk : P (pc + 1) ls (.int ((kByt.getD i []).getD j 0) :: st) M) : P pc ls (.int (nI j) :: .ref (gkv G i) :: st) M := by
  obtain ⟨p, l, e, R, s, m, args, below, meth, c, cells, slots, QQ, hx, hb, hml, hown, hts, hroom, hS0, hP, hret⟩ := hR
  obtain ⟨z1, z2⟩ := vpN rfl hj hn
  exact (hP _ _ _ _).mpr fun H locs lsA h1 h2 h3 => va_tb hx hb (hS0.2.2.2.1.1 i hi).2.2.2 h3 z1 (by rw [z2]) hd ((hP _ _ _ _).mp kk H locs lsA h1 h2 h3)
theorem r_ks0 (hR : Bd G cc own nL d rt Q P) {Y : gY} {idx dc i : Nat} {v : Value} {M2 : gM} (hK : KV own idx Y 0) (hY : Y.1.cls = "java/lang/String") (hdc : dc + 1 ≤ d) (hC : Cf G Y dc [.ref (gks G i)] M (some v) M2) (hi : i < 12) (hcat : (st.map fun v => v.category).sum ≤ 8) (hd : decode cc pc = .ok (.invokevirtual idx, 3)) (k : P (pc + 3) ls (v :: st) M2) : P pc ls (.ref (gks G i) :: st) M := by
  refine g_callV hR (As := []) (st := st) hK hdc rfl hC (fun s H locs q1 q2 q3 => by rw [hY]; exact vk_recv q1.2.2.2.1 hi q3) rfl hcat hd (fun v' M' q => ?_)
  obtain ⟨rfl, rfl⟩ := q
  exact k
theorem r_ks1 (hR : Bd G cc own nL d rt Q P) {Y : gY} {idx dc i : Nat} {x0 v : Value} {M2 : gM} (hK : KV own idx Y 1) (hY : Y.1.cls = "java/lang/String") (hdc : dc + 1 ≤ d) (hC : Cf G Y dc [.ref (gks G i), x0] M (some v) M2) (hi : i < 12) (hcat : (st.map fun v => v.category).sum ≤ 8) (hd : decode cc pc = .ok (.invokevirtual idx, 3)) (k : P (pc + 3) ls (v :: st) M2) : P pc ls (x0 :: .ref (gks G i) :: st) M := by
  refine g_callV hR (As := [x0]) (st := st) hK hdc rfl hC (fun s H locs q1 q2 q3 => by rw [hY]; exact vk_recv q1.2.2.2.1 hi q3) rfl hcat hd (fun v' M' q => ?_)
  obtain ⟨rfl, rfl⟩ := q
  exact k
end Rows
theorem kl_b : ∀ i, i < 12 → kLen.getD i 0 ≤ 7 ∧ nI (kLen.getD i 0) >>> (nI 0 &&& 31) = nI (kLen.getD i 0) := by decide +kernel
theorem kb_c : ∀ i, i < 12 → ∀ j, j < 7 → j < kLen.getD i 0 → (((kByt.getD i []).getD j 0 &&& nI 255).toUInt32 % 65536).toInt32 = nI (nm i j) ∧ narrow .char (.int (nI (nm i j))) = .int (nI (nm i j)) := by decide +kernel
set_option maxHeartbeats 4000000 in
set_option maxRecDepth 100000 in
theorem t_J0_coder {G : gG} {M : gM} {i : Nat} (hi : i < 12) : Cf G mJ0_coder_7d493 0 [.ref (gks G i)] M (some (.int (nI 0))) M := by
  refine Ct.ofJ (by decide +kernel) (k := 0) (ls0 := [some (.ref (gks G i))]) rfl rfl (fun _ _ => trivial) ?_
  intro P hR
  refine r_comp hR dJ0_coder_7d493_0 ?_
  refine r_if_eq hR 13 dJ0_coder_7d493_3 (by decide) (fun c3 => absurd c3 (by decide)) (fun c3 => ?_)
  refine r_aload0 hR dJ0_coder_7d493_6 ?_
  refine r_scod hR hi dJ0_coder_7d493_7 ?_
  refine r_goto hR 14 dJ0_coder_7d493_10 (by decide) ?_
  refine r_nret hR rfl dJ0_coder_7d493_14 (by decide) ?_
  exact ⟨rfl, rfl⟩

set_option maxHeartbeats 4000000 in
set_option maxRecDepth 100000 in
theorem t_J0_isLatin1 {G : gG} {M : gM} {i : Nat} (hi : i < 12) : Cf G mJ0_isLatin1_aae02 0 [.ref (gks G i)] M (some (.int (nI 1))) M := by
  refine Ct.ofJ (by decide +kernel) (k := 0) (ls0 := [some (.ref (gks G i))]) rfl rfl (fun _ _ => trivial) ?_
  intro P hR
  refine r_comp hR dJ0_isLatin1_aae02_0 ?_
  refine r_if_eq hR 17 dJ0_isLatin1_aae02_3 (by decide) (fun c3 => absurd c3 (by decide)) (fun c3 => ?_)
  refine r_aload0 hR dJ0_isLatin1_aae02_6 ?_
  refine r_scod hR hi dJ0_isLatin1_aae02_7 ?_
  refine r_if_ne hR 17 dJ0_isLatin1_aae02_10 (by decide) (fun c10 => absurd c10 (fun q => q rfl)) (fun c10 => ?_)
  refine r_iconst hR (nI 1) (by decide) dJ0_isLatin1_aae02_13 ?_
  refine r_goto hR 18 dJ0_isLatin1_aae02_14 (by decide) ?_
  refine r_zret hR dJ0_isLatin1_aae02_18 rfl ?_
  exact ⟨rfl, rfl⟩

set_option maxHeartbeats 4000000 in
set_option maxRecDepth 100000 in
theorem t_J0_length {G : gG} {M : gM} {i : Nat} (hi : i < 12) : Cf G mJ0_length_8abf5 1 [.ref (gks G i)] M (some (.int (nI (kLen.getD i 0)))) M := by
  refine Ct.ofJ (by decide +kernel) (k := 0) (ls0 := [some (.ref (gks G i))]) rfl rfl (fun _ _ => trivial) ?_
  intro P hR
  refine r_aload0 hR dJ0_length_8abf5_0 ?_
  refine r_sval hR hi dJ0_length_8abf5_1 ?_
  refine r_klen hR hi dJ0_length_8abf5_4 ?_
  refine r_aload0 hR dJ0_length_8abf5_5 ?_
  refine r_ks0 hR kv_J0_335 rfl (by decide) (t_J0_coder hi) hi (Nat.le_of_ble_eq_true rfl) dJ0_length_8abf5_6 ?_
  refine r_ishr hR dJ0_length_8abf5_9 ?_
  rw [(kl_b i hi).2]
  refine r_iret hR dJ0_length_8abf5_10 ?_
  exact ⟨rfl, rfl⟩

set_option maxHeartbeats 4000000 in
set_option maxRecDepth 100000 in
theorem t_J3_checkIndexN {G : gG} {M : gM} {j n : Nat} (hj : j < n) (hn : n < 2 ^ 31) : Cf G mJ3_checkIndex_8e157 0 [.int (nI j), .int (nI n), .null] M (some (.int (nI j))) M := by
  refine Ct.ofJ (by decide +kernel) (k := 0) (ls0 := [some (.int (nI j)), some (.int (nI n)), some (.null)]) rfl rfl (fun _ _ => trivial) ?_
  intro P hR
  refine r_iload0 hR dJ3_checkIndex_8e157_0 ?_
  refine r_if_lt hR 9 dJ3_checkIndex_8e157_1 (by decide) (fun c1 => ?_) (fun c1 => ?_)
  · try simp (disch := omega) only [nI_ltI, nI_leI, nI_eq, bI_0, Decidable.not_not, lc_lt, lc_gt, lc_ge, lc_le, lc_eq, i64_toInt] at c1
    try simp (disch := omega) only [cv_lt, cv_le, cv_eq, nI_toInt, cv_0] at c1
    first
    | omega
    | omega
  · try simp (disch := omega) only [nI_ltI, nI_leI, nI_eq, bI_0, Decidable.not_not, lc_lt, lc_gt, lc_ge, lc_le, lc_eq, i64_toInt] at c1
    try simp (disch := omega) only [cv_lt, cv_le, cv_eq, nI_toInt, cv_0] at c1
    first
    | omega
    | refine r_iload0 hR dJ3_checkIndex_8e157_4 ?_
      refine r_iload1 hR dJ3_checkIndex_8e157_5 ?_
      refine r_icmp_lt hR 16 dJ3_checkIndex_8e157_6 (by decide) (fun c6 => ?_) (fun c6 => ?_)
      · try simp (disch := omega) only [nI_ltI, nI_leI, nI_eq, bI_0, Decidable.not_not, lc_lt, lc_gt, lc_ge, lc_le, lc_eq, i64_toInt] at c6
        try simp (disch := omega) only [cv_lt, cv_le, cv_eq, nI_toInt, cv_0] at c6
        first
        | omega
        | refine r_iload0 hR dJ3_checkIndex_8e157_16 ?_
          refine r_iret hR dJ3_checkIndex_8e157_17 ?_
          exact ⟨rfl, rfl⟩
      · try simp (disch := omega) only [nI_ltI, nI_leI, nI_eq, bI_0, Decidable.not_not, lc_lt, lc_gt, lc_ge, lc_le, lc_eq, i64_toInt] at c6
        try simp (disch := omega) only [cv_lt, cv_le, cv_eq, nI_toInt, cv_0] at c6
        first
        | omega
        | omega

set_option maxHeartbeats 4000000 in
set_option maxRecDepth 100000 in
theorem t_J3_checkIndexR {G : gG} {M : gM} {j n : Nat} {t : Nat} (hj : j < n) (hn : n < 2 ^ 31) : Cf G mJ3_checkIndex_8e157 0 [.int (nI j), .int (nI n), .ref t] M (some (.int (nI j))) M := by
  refine Ct.ofJ (by decide +kernel) (k := 0) (ls0 := [some (.int (nI j)), some (.int (nI n)), some (.ref t)]) rfl rfl (fun _ _ => trivial) ?_
  intro P hR
  refine r_iload0 hR dJ3_checkIndex_8e157_0 ?_
  refine r_if_lt hR 9 dJ3_checkIndex_8e157_1 (by decide) (fun c1 => ?_) (fun c1 => ?_)
  · try simp (disch := omega) only [nI_ltI, nI_leI, nI_eq, bI_0, Decidable.not_not, lc_lt, lc_gt, lc_ge, lc_le, lc_eq, i64_toInt] at c1
    try simp (disch := omega) only [cv_lt, cv_le, cv_eq, nI_toInt, cv_0] at c1
    first
    | omega
    | omega
  · try simp (disch := omega) only [nI_ltI, nI_leI, nI_eq, bI_0, Decidable.not_not, lc_lt, lc_gt, lc_ge, lc_le, lc_eq, i64_toInt] at c1
    try simp (disch := omega) only [cv_lt, cv_le, cv_eq, nI_toInt, cv_0] at c1
    first
    | omega
    | refine r_iload0 hR dJ3_checkIndex_8e157_4 ?_
      refine r_iload1 hR dJ3_checkIndex_8e157_5 ?_
      refine r_icmp_lt hR 16 dJ3_checkIndex_8e157_6 (by decide) (fun c6 => ?_) (fun c6 => ?_)
      · try simp (disch := omega) only [nI_ltI, nI_leI, nI_eq, bI_0, Decidable.not_not, lc_lt, lc_gt, lc_ge, lc_le, lc_eq, i64_toInt] at c6
        try simp (disch := omega) only [cv_lt, cv_le, cv_eq, nI_toInt, cv_0] at c6
        first
        | omega
        | refine r_iload0 hR dJ3_checkIndex_8e157_16 ?_
          refine r_iret hR dJ3_checkIndex_8e157_17 ?_
          exact ⟨rfl, rfl⟩
      · try simp (disch := omega) only [nI_ltI, nI_leI, nI_eq, bI_0, Decidable.not_not, lc_lt, lc_gt, lc_ge, lc_le, lc_eq, i64_toInt] at c6
        try simp (disch := omega) only [cv_lt, cv_le, cv_eq, nI_toInt, cv_0] at c6
        first
        | omega
        | omega

set_option maxHeartbeats 4000000 in
set_option maxRecDepth 100000 in
theorem t_J0_checkIndex {G : gG} {M : gM} {j n : Nat} (hj : j < n) (hn : n < 2 ^ 31) : Cf G mJ0_checkIndex_df160 1 [.int (nI j), .int (nI n)] M none M := by
  refine Ct.ofJ (by decide +kernel) (k := 0) (ls0 := [some (.int (nI j)), some (.int (nI n))]) rfl rfl (fun _ _ => trivial) ?_
  intro P hR
  refine r_iload0 hR dJ0_checkIndex_df160_0 ?_
  refine r_iload1 hR dJ0_checkIndex_df160_1 ?_
  refine r_sioo hR dJ0_checkIndex_df160_2 ?_ (fun t => ?_)
  · skip
    refine r_cs3v hR ks_J0_1059 (by decide) (t_J3_checkIndexN hj hn) (Nat.le_of_ble_eq_true rfl) dJ0_checkIndex_df160_5 ?_
    refine r_pop hR rfl dJ0_checkIndex_df160_8 ?_
    refine r_vret hR dJ0_checkIndex_df160_9 ?_
    exact ⟨rfl, rfl⟩
  · skip
    refine r_cs3v hR ks_J0_1059 (by decide) (t_J3_checkIndexR hj hn) (Nat.le_of_ble_eq_true rfl) dJ0_checkIndex_df160_5 ?_
    refine r_pop hR rfl dJ0_checkIndex_df160_8 ?_
    refine r_vret hR dJ0_checkIndex_df160_9 ?_
    exact ⟨rfl, rfl⟩

set_option maxHeartbeats 4000000 in
set_option maxRecDepth 100000 in
theorem t_J1_charAt {G : gG} {M : gM} {i j : Nat} (hi : i < 12) (hj : j < kLen.getD i 0) : Cf G mJ1_charAt_3b067 2 [.ref (gkv G i), .int (nI j)] M (some (.int (nI (nm i j)))) M := by
  have hk7 := (kl_b i hi).1
  refine Ct.ofJ (by decide +kernel) (k := 0) (ls0 := [some (.ref (gkv G i)), some (.int (nI j))]) rfl rfl (fun _ _ => trivial) ?_
  intro P hR
  refine r_iload1 hR dJ1_charAt_3b067_0 ?_
  refine r_aload0 hR dJ1_charAt_3b067_1 ?_
  refine r_klen hR hi dJ1_charAt_3b067_2 ?_
  refine r_cs2u hR ks_J1_9 (by decide) (t_J0_checkIndex hj (by omega)) (Nat.le_of_ble_eq_true rfl) dJ1_charAt_3b067_3 ?_
  refine r_aload0 hR dJ1_charAt_3b067_6 ?_
  refine r_iload1 hR dJ1_charAt_3b067_7 ?_
  refine r_kald hR hi hj (by omega) dJ1_charAt_3b067_8 ?_
  refine r_sipush hR (nI 255) (by decide) dJ1_charAt_3b067_9 ?_
  refine r_iand hR dJ1_charAt_3b067_12 ?_
  refine r_i2c hR dJ1_charAt_3b067_13 ?_
  rw [(kb_c i hi j (by omega) hj).1]
  refine r_nret hR rfl dJ1_charAt_3b067_14 (kb_c i hi j (by omega) hj).2 ?_
  exact ⟨rfl, rfl⟩

set_option maxHeartbeats 4000000 in
set_option maxRecDepth 100000 in
theorem t_J0_charAt {G : gG} {M : gM} {i j : Nat} (hi : i < 12) (hj : j < kLen.getD i 0) : Cf G mJ0_charAt_5068e 3 [.ref (gks G i), .int (nI j)] M (some (.int (nI (nm i j)))) M := by
  have hk7 := (kl_b i hi).1
  refine Ct.ofJ (by decide +kernel) (k := 0) (ls0 := [some (.ref (gks G i)), some (.int (nI j))]) rfl rfl (fun _ _ => trivial) ?_
  intro P hR
  refine r_aload0 hR dJ0_charAt_5068e_0 ?_
  refine r_ks0 hR kv_J0_492 rfl (by decide) (t_J0_isLatin1 hi) hi (Nat.le_of_ble_eq_true rfl) dJ0_charAt_5068e_1 ?_
  refine r_if_eq hR 16 dJ0_charAt_5068e_4 (by decide) (fun c4 => absurd c4 (by decide)) (fun c4 => ?_)
  refine r_aload0 hR dJ0_charAt_5068e_7 ?_
  refine r_sval hR hi dJ0_charAt_5068e_8 ?_
  refine r_iload1 hR dJ0_charAt_5068e_11 ?_
  refine r_cs2v hR ks_J0_495 (by decide) (t_J1_charAt hi hj) (Nat.le_of_ble_eq_true rfl) dJ0_charAt_5068e_12 ?_
  refine r_nret hR rfl dJ0_charAt_5068e_15 (kb_c i hi j (by omega) hj).2 ?_
  exact ⟨rfl, rfl⟩

set_option maxHeartbeats 4000000 in
set_option maxRecDepth 100000 in
theorem t_X4_nameOf {G : gG} {M : gM} {k : Nat} (hk : k < 6) : Cf G mX4_nameOf 0 [.int (nI k)] M (some (.ref (gks G k))) M := by
  refine Ct.ofA (by decide +kernel) (k := 0) (ls0 := [some (.int (nI k))]) rfl rfl rfl ?_
  intro P hR hA
  refine r_iload0 hR dX4_nameOf_0 ?_
  by_cases e1 : k = 1
  · refine r_swInN hR 1 e1 (by decide) 36 dX4_nameOf_1 (by decide) (by decide) rfl (by decide) ?_
    refine r_ldcS hR 1 (by decide) (by decide) dX4_nameOf_36 ?_
    exact hA _ _ _ _ dX4_nameOf_38 ⟨congrArg (fun z => some (Value.ref (gks G z))) (by omega), rfl⟩
  · skip
    by_cases e2 : k = 2
    · refine r_swInN hR 2 e2 (by decide) 39 dX4_nameOf_1 (by decide) (by decide) rfl (by decide) ?_
      refine r_ldcS hR 2 (by decide) (by decide) dX4_nameOf_39 ?_
      exact hA _ _ _ _ dX4_nameOf_41 ⟨congrArg (fun z => some (Value.ref (gks G z))) (by omega), rfl⟩
    · skip
      by_cases e3 : k = 3
      · refine r_swInN hR 3 e3 (by decide) 42 dX4_nameOf_1 (by decide) (by decide) rfl (by decide) ?_
        refine r_ldcS hR 3 (by decide) (by decide) dX4_nameOf_42 ?_
        exact hA _ _ _ _ dX4_nameOf_44 ⟨congrArg (fun z => some (Value.ref (gks G z))) (by omega), rfl⟩
      · skip
        by_cases e4 : k = 4
        · refine r_swInN hR 4 e4 (by decide) 45 dX4_nameOf_1 (by decide) (by decide) rfl (by decide) ?_
          refine r_ldcS hR 4 (by decide) (by decide) dX4_nameOf_45 ?_
          exact hA _ _ _ _ dX4_nameOf_47 ⟨congrArg (fun z => some (Value.ref (gks G z))) (by omega), rfl⟩
        · skip
          by_cases e5 : k = 5
          · refine r_swInN hR 5 e5 (by decide) 48 dX4_nameOf_1 (by decide) (by decide) rfl (by decide) ?_
            refine r_ldcS hR 5 (by decide) (by decide) dX4_nameOf_48 ?_
            exact hA _ _ _ _ dX4_nameOf_50 ⟨congrArg (fun z => some (Value.ref (gks G z))) (by omega), rfl⟩
          · skip
            refine r_swOutN hR (k := k) (by omega) 51 dX4_nameOf_1 (by omega) (by decide) ?_
            refine r_ldcS hR 0 (by decide) (by decide) dX4_nameOf_51 ?_
            exact hA _ _ _ _ dX4_nameOf_53 ⟨congrArg (fun z => some (Value.ref (gks G z))) (by omega), rfl⟩

set_option maxHeartbeats 4000000 in
set_option maxRecDepth 100000 in
theorem t_X3_isWord {G : gG} {M : gM} {T : Nat → Nat} {l : Nat} {L : Lx} (h : ctP M T l) (hL : isLx T l L) {w : Nat} (hw : w < 12) : Cf G mX3_isWord 4 [.ref (ad G 8 0), .ref (gks G w)] (lcM M T l L) (some (.int (bI (L.1 = w)))) (lcM M T l L) := by
  have hT := h.2.2.2
  have hB := isLx_B hT hL
  obtain ⟨b1, b2, b3, b4, b5, b6⟩ := id hB
  obtain ⟨k2, k0, k3⟩ := lx_k hL
  have kl := kC_le T l L.2.1
  have l2 := h.2.2.1
  have lw := lx_word hL hw
  have hk7 := (kl_b w hw).1
  refine Ct.of (by decide +kernel) (k := 1) (ls0 := [some (.ref (ad G 8 0)), some (.ref (gks G w)), none]) rfl rfl (fun _ _ => trivial) ?_
  intro P hR
  have L0 : ∀ (j i : Nat), i + j = kLen.getD w 0 → (kC T l L.2.1 = 1) → (L.2.2.1 - L.2.1 = kLen.getD w 0) → (∀ k, k < i → nm w k = T (L.2.1 + k)) → P 28 [some (.ref (ad G 8 0)), some (.ref (gks G w)), some (.int (nI i))] [] (lcM M T l L) := by
    intro j
    induction j with
    | zero =>
      intro i  hij hk1 hle hall
      refine r_iload2 hR dX3_isWord_28 ?_
      refine r_aload1 hR dX3_isWord_29 ?_
      refine r_ks0 hR kv_X3_35 rfl (by decide) (t_J0_length hw) hw (Nat.le_of_ble_eq_true rfl) dX3_isWord_30 ?_
      refine r_icmp_ge hR 63 dX3_isWord_33 (by decide) (fun c33 => ?_) (fun c33 => ?_)
      · try simp (disch := omega) only [nI_ltI, nI_leI, nI_eq, bI_0, Decidable.not_not, lc_lt, lc_gt, lc_ge, lc_le, lc_eq, i64_toInt] at c33
        try simp (disch := omega) only [cv_lt, cv_le, cv_eq, nI_toInt, cv_0] at c33
        first
        | omega
        | refine r_iconst hR (nI 1) (by decide) dX3_isWord_63 ?_
          refine r_zret hR dX3_isWord_64 rfl ?_
          refine ⟨by rw [bI_t (lw.mpr ⟨hk1, hle, fun k hk => hall k (by omega)⟩)], rfl⟩
      · try simp (disch := omega) only [nI_ltI, nI_leI, nI_eq, bI_0, Decidable.not_not, lc_lt, lc_gt, lc_ge, lc_le, lc_eq, i64_toInt] at c33
        try simp (disch := omega) only [cv_lt, cv_le, cv_eq, nI_toInt, cv_0] at c33
        first
        | omega
        | refine r_aload0 hR dX3_isWord_36 ?_
          refine r_get hR (by first | decide | assumption | (simp only [gcnt_4, gcnt_1, gcnt_2, gcnt_3, gcnt_12, gcnt_13, gcnt_16]; omega)) fl_X3_9 rfl rfl dX3_isWord_37 ?_
          try simp only [lc_2, lc_3, lc_4]
          refine r_aload0 hR dX3_isWord_40 ?_
          refine r_get hR (by first | decide | assumption | (simp only [gcnt_4, gcnt_1, gcnt_2, gcnt_3, gcnt_12, gcnt_13, gcnt_16]; omega)) fl_X3_25 rfl rfl dX3_isWord_41 ?_
          try simp only [lc_2, lc_3, lc_4]
          refine r_iload2 hR dX3_isWord_44 ?_
          refine r_iadd hR dX3_isWord_45 ?_
          try rw [nI_add]
          refine r_iald hR (by first | decide | assumption | (simp only [gcnt_4, gcnt_1, gcnt_2, gcnt_3, gcnt_12, gcnt_13, gcnt_16]; omega)) rfl rfl (by omega) (by decide) dX3_isWord_46 ?_
          try simp only [lc_2, lc_3, lc_4]
          rw [(lc_ct h).2.1 (L.2.1 + i) (by omega)]
          have hTi := hT (L.2.1 + i)
          have hni := (nm_t w hw i (by omega)).2
          refine r_aload1 hR dX3_isWord_47 ?_
          refine r_iload2 hR dX3_isWord_48 ?_
          refine r_ks1 hR kv_X3_40 rfl (by decide) (t_J0_charAt hw (by omega)) hw (Nat.le_of_ble_eq_true rfl) dX3_isWord_49 ?_
          refine r_icmp_eq hR 57 dX3_isWord_52 (by decide) (fun c52 => ?_) (fun c52 => ?_)
          · try simp (disch := omega) only [nI_ltI, nI_leI, nI_eq, bI_0, Decidable.not_not, lc_lt, lc_gt, lc_ge, lc_le, lc_eq, i64_toInt] at c52
            try simp (disch := omega) only [cv_lt, cv_le, cv_eq, nI_toInt, cv_0] at c52
            first
            | omega
            | refine r_iinc2 hR (nI 1) (by decide) (fun _ h => by first | (cases h; rfl) | exact absurd h (by simp)) dX3_isWord_57 ?_
              try rw [nI_add]
              refine r_goto hR 28 dX3_isWord_60 (by decide) ?_
              omega
          · try simp (disch := omega) only [nI_ltI, nI_leI, nI_eq, bI_0, Decidable.not_not, lc_lt, lc_gt, lc_ge, lc_le, lc_eq, i64_toInt] at c52
            try simp (disch := omega) only [cv_lt, cv_le, cv_eq, nI_toInt, cv_0] at c52
            first
            | omega
            | refine r_iconst hR (nI 0) (by decide) dX3_isWord_55 ?_
              refine r_zret hR dX3_isWord_56 rfl ?_
              have hno : ¬ L.1 = w := fun z => by
                have := (lw.mp z).2.2 i (by omega)
                omega
              exact ⟨by rw [bI_f hno], rfl⟩
    | succ j ih =>
      intro i  hij hk1 hle hall
      refine r_iload2 hR dX3_isWord_28 ?_
      refine r_aload1 hR dX3_isWord_29 ?_
      refine r_ks0 hR kv_X3_35 rfl (by decide) (t_J0_length hw) hw (Nat.le_of_ble_eq_true rfl) dX3_isWord_30 ?_
      refine r_icmp_ge hR 63 dX3_isWord_33 (by decide) (fun c33 => ?_) (fun c33 => ?_)
      · try simp (disch := omega) only [nI_ltI, nI_leI, nI_eq, bI_0, Decidable.not_not, lc_lt, lc_gt, lc_ge, lc_le, lc_eq, i64_toInt] at c33
        try simp (disch := omega) only [cv_lt, cv_le, cv_eq, nI_toInt, cv_0] at c33
        first
        | omega
        | refine r_iconst hR (nI 1) (by decide) dX3_isWord_63 ?_
          refine r_zret hR dX3_isWord_64 rfl ?_
          refine ⟨by rw [bI_t (lw.mpr ⟨hk1, hle, fun k hk => hall k (by omega)⟩)], rfl⟩
      · try simp (disch := omega) only [nI_ltI, nI_leI, nI_eq, bI_0, Decidable.not_not, lc_lt, lc_gt, lc_ge, lc_le, lc_eq, i64_toInt] at c33
        try simp (disch := omega) only [cv_lt, cv_le, cv_eq, nI_toInt, cv_0] at c33
        first
        | omega
        | refine r_aload0 hR dX3_isWord_36 ?_
          refine r_get hR (by first | decide | assumption | (simp only [gcnt_4, gcnt_1, gcnt_2, gcnt_3, gcnt_12, gcnt_13, gcnt_16]; omega)) fl_X3_9 rfl rfl dX3_isWord_37 ?_
          try simp only [lc_2, lc_3, lc_4]
          refine r_aload0 hR dX3_isWord_40 ?_
          refine r_get hR (by first | decide | assumption | (simp only [gcnt_4, gcnt_1, gcnt_2, gcnt_3, gcnt_12, gcnt_13, gcnt_16]; omega)) fl_X3_25 rfl rfl dX3_isWord_41 ?_
          try simp only [lc_2, lc_3, lc_4]
          refine r_iload2 hR dX3_isWord_44 ?_
          refine r_iadd hR dX3_isWord_45 ?_
          try rw [nI_add]
          refine r_iald hR (by first | decide | assumption | (simp only [gcnt_4, gcnt_1, gcnt_2, gcnt_3, gcnt_12, gcnt_13, gcnt_16]; omega)) rfl rfl (by omega) (by decide) dX3_isWord_46 ?_
          try simp only [lc_2, lc_3, lc_4]
          rw [(lc_ct h).2.1 (L.2.1 + i) (by omega)]
          have hTi := hT (L.2.1 + i)
          have hni := (nm_t w hw i (by omega)).2
          refine r_aload1 hR dX3_isWord_47 ?_
          refine r_iload2 hR dX3_isWord_48 ?_
          refine r_ks1 hR kv_X3_40 rfl (by decide) (t_J0_charAt hw (by omega)) hw (Nat.le_of_ble_eq_true rfl) dX3_isWord_49 ?_
          refine r_icmp_eq hR 57 dX3_isWord_52 (by decide) (fun c52 => ?_) (fun c52 => ?_)
          · try simp (disch := omega) only [nI_ltI, nI_leI, nI_eq, bI_0, Decidable.not_not, lc_lt, lc_gt, lc_ge, lc_le, lc_eq, i64_toInt] at c52
            try simp (disch := omega) only [cv_lt, cv_le, cv_eq, nI_toInt, cv_0] at c52
            first
            | omega
            | refine r_iinc2 hR (nI 1) (by decide) (fun _ h => by first | (cases h; rfl) | exact absurd h (by simp)) dX3_isWord_57 ?_
              try rw [nI_add]
              refine r_goto hR 28 dX3_isWord_60 (by decide) ?_
              refine ih (i + 1) (by omega) hk1 hle (fun k hk => ?_)
              by_cases e : k = i
              · rw [e]; omega
              · exact hall k (by omega)
          · try simp (disch := omega) only [nI_ltI, nI_leI, nI_eq, bI_0, Decidable.not_not, lc_lt, lc_gt, lc_ge, lc_le, lc_eq, i64_toInt] at c52
            try simp (disch := omega) only [cv_lt, cv_le, cv_eq, nI_toInt, cv_0] at c52
            first
            | omega
            | refine r_iconst hR (nI 0) (by decide) dX3_isWord_55 ?_
              refine r_zret hR dX3_isWord_56 rfl ?_
              have hno : ¬ L.1 = w := fun z => by
                have := (lw.mp z).2.2 i (by omega)
                omega
              exact ⟨by rw [bI_f hno], rfl⟩
  refine r_aload0 hR dX3_isWord_0 ?_
  refine r_get hR (by first | decide | assumption | (simp only [gcnt_4, gcnt_1, gcnt_2, gcnt_3, gcnt_12, gcnt_13, gcnt_16]; omega)) fl_X3_28 rfl rfl dX3_isWord_1 ?_
  try simp only [lc_2, lc_3, lc_4]
  refine r_iconst hR (nI 1) (by decide) dX3_isWord_4 ?_
  refine r_icmp_ne hR 24 dX3_isWord_5 (by decide) (fun c5 => ?_) (fun c5 => ?_)
  · try simp (disch := omega) only [nI_ltI, nI_leI, nI_eq, bI_0, Decidable.not_not, lc_lt, lc_gt, lc_ge, lc_le, lc_eq, i64_toInt] at c5
    try simp (disch := omega) only [cv_lt, cv_le, cv_eq, nI_toInt, cv_0] at c5
    first
    | omega
    | refine r_iconst hR (nI 0) (by decide) dX3_isWord_24 ?_
      refine r_zret hR dX3_isWord_25 rfl ?_
      have hno : ¬ L.1 = w := fun z => by
        have z1 := (lw.mp z).1
        have z2 := (lw.mp z).2.1
        omega
      exact ⟨by rw [bI_f hno], rfl⟩
  · try simp (disch := omega) only [nI_ltI, nI_leI, nI_eq, bI_0, Decidable.not_not, lc_lt, lc_gt, lc_ge, lc_le, lc_eq, i64_toInt] at c5
    try simp (disch := omega) only [cv_lt, cv_le, cv_eq, nI_toInt, cv_0] at c5
    first
    | omega
    | refine r_aload0 hR dX3_isWord_8 ?_
      refine r_get hR (by first | decide | assumption | (simp only [gcnt_4, gcnt_1, gcnt_2, gcnt_3, gcnt_12, gcnt_13, gcnt_16]; omega)) fl_X3_19 rfl rfl dX3_isWord_9 ?_
      try simp only [lc_2, lc_3, lc_4]
      refine r_aload0 hR dX3_isWord_12 ?_
      refine r_get hR (by first | decide | assumption | (simp only [gcnt_4, gcnt_1, gcnt_2, gcnt_3, gcnt_12, gcnt_13, gcnt_16]; omega)) fl_X3_25 rfl rfl dX3_isWord_13 ?_
      try simp only [lc_2, lc_3, lc_4]
      refine r_isubN hR b5 dX3_isWord_16 ?_
      refine r_aload1 hR dX3_isWord_17 ?_
      refine r_ks0 hR kv_X3_35 rfl (by decide) (t_J0_length hw) hw (Nat.le_of_ble_eq_true rfl) dX3_isWord_18 ?_
      refine r_icmp_eq hR 26 dX3_isWord_21 (by decide) (fun c21 => ?_) (fun c21 => ?_)
      · try simp (disch := omega) only [nI_ltI, nI_leI, nI_eq, bI_0, Decidable.not_not, lc_lt, lc_gt, lc_ge, lc_le, lc_eq, i64_toInt] at c21
        try simp (disch := omega) only [cv_lt, cv_le, cv_eq, nI_toInt, cv_0] at c21
        first
        | omega
        | refine r_iconst hR (nI 0) (by decide) dX3_isWord_26 ?_
          refine r_istore2 hR (fun _ h => by first | (cases h; rfl) | exact absurd h (by simp)) dX3_isWord_27 ?_
          exact L0 _ 0 (Nat.zero_add _) (by omega) (by omega) (fun k hk => absurd hk (by omega))
      · try simp (disch := omega) only [nI_ltI, nI_leI, nI_eq, bI_0, Decidable.not_not, lc_lt, lc_gt, lc_ge, lc_le, lc_eq, i64_toInt] at c21
        try simp (disch := omega) only [cv_lt, cv_le, cv_eq, nI_toInt, cv_0] at c21
        first
        | omega
        | refine r_iconst hR (nI 0) (by decide) dX3_isWord_24 ?_
          refine r_zret hR dX3_isWord_25 rfl ?_
          have hno : ¬ L.1 = w := fun z => by
            have z1 := (lw.mp z).1
            have z2 := (lw.mp z).2.1
            omega
          exact ⟨by rw [bI_f hno], rfl⟩


