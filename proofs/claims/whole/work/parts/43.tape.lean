/-! THE CLASS'S TAPE: 8 slots 1 length 2 token 3 place 4 behind; 9 bytes -/
def ctP (M : gM) (T : Nat → Nat) (l : Nat) : Prop := M.1 8 0 1 = nI l ∧ (∀ j, j < l → M.1 9 0 j = nI (T j)) ∧ l ≤ 120 ∧ ∀ j, T j < 256
theorem ct_s {M : gM} {T : Nat → Nat} {l k : Nat} {x : Int32} (h : ctP M T l) (hk : ¬ k = 1) : ctP (seti M 8 0 k x) T l := ⟨by rw [seti_r, if_neg (by omega)]; exact h.1, fun j hj => by rw [seti_r, if_neg (by omega)]; exact h.2.1 j hj, h.2.2⟩
def tokC (b : Nat) : Nat := if 97 ≤ b ∧ b ≤ 122 then 1 else if 48 ≤ b ∧ b ≤ 57 then 2 else if b = 59 then 3 else 4
def kC (T : Nat → Nat) (l b : Nat) : Nat := if b = l then 0 else tokC (T b)
def cM (M : gM) (k b e : Nat) : gM := seti (seti (seti M 8 0 3 (nI b)) 8 0 2 (nI k)) 8 0 4 (nI e)
def lcM (M : gM) (T : Nat → Nat) (l : Nat) (L : Lx) : gM := cM M (kC T l L.2.1) L.2.1 L.2.2.1
theorem cM_2 (M : gM) (k b e : Nat) : (cM M k b e).1 8 0 2 = nI k := by unfold cM; rw [seti_r, if_neg (by omega), seti_r, if_pos ⟨rfl, rfl, rfl⟩]
theorem cM_3 (M : gM) (k b e : Nat) : (cM M k b e).1 8 0 3 = nI b := by unfold cM; rw [seti_r, if_neg (by omega), seti_r, if_neg (by omega), seti_r, if_pos ⟨rfl, rfl, rfl⟩]
theorem cM_4 (M : gM) (k b e : Nat) : (cM M k b e).1 8 0 4 = nI e := by unfold cM; rw [seti_r, if_pos ⟨rfl, rfl, rfl⟩]
theorem cM_ct {M : gM} {T : Nat → Nat} {l k b e : Nat} (h : ctP M T l) : ctP (cM M k b e) T l := ct_s (ct_s (ct_s h (by omega)) (by omega)) (by omega)
theorem cM_b (M : gM) (k b e e' : Nat) : seti (cM M k b e) 8 0 4 (nI e') = cM M k b e' := seti_seti _ _ _ _ _ _
theorem cM_t (M : gM) (k b e k' : Nat) : seti (cM M k b e) 8 0 2 (nI k') = cM M k' b e := by
  unfold cM
  refine gM_ext (fun r i k => ?_) rfl
  simp only [seti_r]
  (repeat' split) <;> first | rfl | omega
theorem cM_0 (M : gM) (b : Nat) : seti (seti (seti M 8 0 3 (nI b)) 8 0 4 (nI b)) 8 0 2 (nI 0) = cM M 0 b b := by
  unfold cM
  refine gM_ext (fun r i k => ?_) rfl
  simp only [seti_r]
  (repeat' split) <;> first | rfl | omega
theorem s3 (M : gM) (x : Int32) : (seti M 8 0 3 x).1 8 0 3 = x := by rw [seti_r, if_pos ⟨rfl, rfl, rfl⟩]
theorem tok_1 {b : Nat} : tokC b = 1 ↔ cLe b = true := by
  rw [cLe_i]; unfold tokC
  by_cases q : 97 ≤ b ∧ b ≤ 122
  · rw [if_pos q]; exact ⟨fun _ => q, fun _ => rfl⟩
  · rw [if_neg q]
    refine ⟨fun h => ?_, fun h => absurd h q⟩
    split at h
    · omega
    · split at h <;> omega
theorem tok_2 {b : Nat} : tokC b = 2 ↔ cDi b = true := by
  rw [cDi_i]; unfold tokC
  by_cases q : 97 ≤ b ∧ b ≤ 122
  · rw [if_pos q]; exact ⟨fun h => by omega, fun h => by omega⟩
  · rw [if_neg q]
    by_cases q2 : 48 ≤ b ∧ b ≤ 57
    · rw [if_pos q2]; exact ⟨fun _ => q2, fun _ => rfl⟩
    · rw [if_neg q2]
      refine ⟨fun h => ?_, fun h => absurd h q2⟩
      split at h <;> omega
theorem tok_le (b : Nat) : 1 ≤ tokC b ∧ tokC b ≤ 4 := by unfold tokC; (repeat' split) <;> omega
set_option maxHeartbeats 4000000 in
set_option maxRecDepth 100000 in
theorem t_X3_tokenOf {G : gG} {M : gM} {b : Nat} (hb : b < 256) : Cf G mX3_tokenOf 0 [.int (nI b)] M (some (.int (nI (tokC b)))) M := by
  refine Ct.of (by decide +kernel) (k := 0) (ls0 := [some (.int (nI b))]) rfl rfl (fun _ _ => trivial) ?_
  intro P hR
  refine r_iload0 hR dX3_tokenOf_0 ?_
  refine r_bipush hR (nI 97) (by decide) dX3_tokenOf_1 ?_
  refine r_icmp_lt hR 14 dX3_tokenOf_3 (by decide) (fun c3 => ?_) (fun c3 => ?_)
  · try simp (disch := omega) only [nI_ltI, nI_leI, nI_eq, bI_0, Decidable.not_not, lc_lt, lc_gt, lc_ge, lc_le, lc_eq, i64_toInt] at c3
    try simp (disch := omega) only [cv_lt, cv_le, cv_eq, nI_toInt, cv_0] at c3
    first
    | omega
    | refine r_iload0 hR dX3_tokenOf_14 ?_
      refine r_bipush hR (nI 48) (by decide) dX3_tokenOf_15 ?_
      refine r_icmp_lt hR 28 dX3_tokenOf_17 (by decide) (fun c17 => ?_) (fun c17 => ?_)
      · try simp (disch := omega) only [nI_ltI, nI_leI, nI_eq, bI_0, Decidable.not_not, lc_lt, lc_gt, lc_ge, lc_le, lc_eq, i64_toInt] at c17
        try simp (disch := omega) only [cv_lt, cv_le, cv_eq, nI_toInt, cv_0] at c17
        first
        | omega
        | refine r_iload0 hR dX3_tokenOf_28 ?_
          refine r_bipush hR (nI 59) (by decide) dX3_tokenOf_29 ?_
          refine r_icmp_ne hR 38 dX3_tokenOf_31 (by decide) (fun c31 => ?_) (fun c31 => ?_)
          · try simp (disch := omega) only [nI_ltI, nI_leI, nI_eq, bI_0, Decidable.not_not, lc_lt, lc_gt, lc_ge, lc_le, lc_eq, i64_toInt] at c31
            try simp (disch := omega) only [cv_lt, cv_le, cv_eq, nI_toInt, cv_0] at c31
            first
            | omega
            | refine r_iconst hR (nI 4) (by decide) dX3_tokenOf_38 ?_
              refine r_iret hR dX3_tokenOf_39 ?_
              refine ⟨congrArg (fun z => some (Value.int (nI z))) ?_, rfl⟩
              unfold tokC
              (repeat' split) <;> omega
          · try simp (disch := omega) only [nI_ltI, nI_leI, nI_eq, bI_0, Decidable.not_not, lc_lt, lc_gt, lc_ge, lc_le, lc_eq, i64_toInt] at c31
            try simp (disch := omega) only [cv_lt, cv_le, cv_eq, nI_toInt, cv_0] at c31
            first
            | omega
            | refine r_iconst hR (nI 3) (by decide) dX3_tokenOf_34 ?_
              refine r_goto hR 39 dX3_tokenOf_35 (by decide) ?_
              refine r_iret hR dX3_tokenOf_39 ?_
              refine ⟨congrArg (fun z => some (Value.int (nI z))) ?_, rfl⟩
              unfold tokC
              (repeat' split) <;> omega
      · try simp (disch := omega) only [nI_ltI, nI_leI, nI_eq, bI_0, Decidable.not_not, lc_lt, lc_gt, lc_ge, lc_le, lc_eq, i64_toInt] at c17
        try simp (disch := omega) only [cv_lt, cv_le, cv_eq, nI_toInt, cv_0] at c17
        first
        | omega
        | refine r_iload0 hR dX3_tokenOf_20 ?_
          refine r_bipush hR (nI 57) (by decide) dX3_tokenOf_21 ?_
          refine r_icmp_gt hR 28 dX3_tokenOf_23 (by decide) (fun c23 => ?_) (fun c23 => ?_)
          · try simp (disch := omega) only [nI_ltI, nI_leI, nI_eq, bI_0, Decidable.not_not, lc_lt, lc_gt, lc_ge, lc_le, lc_eq, i64_toInt] at c23
            try simp (disch := omega) only [cv_lt, cv_le, cv_eq, nI_toInt, cv_0] at c23
            first
            | omega
            | refine r_iload0 hR dX3_tokenOf_28 ?_
              refine r_bipush hR (nI 59) (by decide) dX3_tokenOf_29 ?_
              refine r_icmp_ne hR 38 dX3_tokenOf_31 (by decide) (fun c31 => ?_) (fun c31 => ?_)
              · try simp (disch := omega) only [nI_ltI, nI_leI, nI_eq, bI_0, Decidable.not_not, lc_lt, lc_gt, lc_ge, lc_le, lc_eq, i64_toInt] at c31
                try simp (disch := omega) only [cv_lt, cv_le, cv_eq, nI_toInt, cv_0] at c31
                first
                | omega
                | refine r_iconst hR (nI 4) (by decide) dX3_tokenOf_38 ?_
                  refine r_iret hR dX3_tokenOf_39 ?_
                  refine ⟨congrArg (fun z => some (Value.int (nI z))) ?_, rfl⟩
                  unfold tokC
                  (repeat' split) <;> omega
              · try simp (disch := omega) only [nI_ltI, nI_leI, nI_eq, bI_0, Decidable.not_not, lc_lt, lc_gt, lc_ge, lc_le, lc_eq, i64_toInt] at c31
                try simp (disch := omega) only [cv_lt, cv_le, cv_eq, nI_toInt, cv_0] at c31
                first
                | omega
                | refine r_iconst hR (nI 3) (by decide) dX3_tokenOf_34 ?_
                  refine r_goto hR 39 dX3_tokenOf_35 (by decide) ?_
                  refine r_iret hR dX3_tokenOf_39 ?_
                  refine ⟨congrArg (fun z => some (Value.int (nI z))) ?_, rfl⟩
                  unfold tokC
                  (repeat' split) <;> omega
          · try simp (disch := omega) only [nI_ltI, nI_leI, nI_eq, bI_0, Decidable.not_not, lc_lt, lc_gt, lc_ge, lc_le, lc_eq, i64_toInt] at c23
            try simp (disch := omega) only [cv_lt, cv_le, cv_eq, nI_toInt, cv_0] at c23
            first
            | omega
            | refine r_iconst hR (nI 2) (by decide) dX3_tokenOf_26 ?_
              refine r_iret hR dX3_tokenOf_27 ?_
              refine ⟨congrArg (fun z => some (Value.int (nI z))) ?_, rfl⟩
              unfold tokC
              (repeat' split) <;> omega
  · try simp (disch := omega) only [nI_ltI, nI_leI, nI_eq, bI_0, Decidable.not_not, lc_lt, lc_gt, lc_ge, lc_le, lc_eq, i64_toInt] at c3
    try simp (disch := omega) only [cv_lt, cv_le, cv_eq, nI_toInt, cv_0] at c3
    first
    | omega
    | refine r_iload0 hR dX3_tokenOf_6 ?_
      refine r_bipush hR (nI 122) (by decide) dX3_tokenOf_7 ?_
      refine r_icmp_gt hR 14 dX3_tokenOf_9 (by decide) (fun c9 => ?_) (fun c9 => ?_)
      · try simp (disch := omega) only [nI_ltI, nI_leI, nI_eq, bI_0, Decidable.not_not, lc_lt, lc_gt, lc_ge, lc_le, lc_eq, i64_toInt] at c9
        try simp (disch := omega) only [cv_lt, cv_le, cv_eq, nI_toInt, cv_0] at c9
        first
        | omega
        | refine r_iload0 hR dX3_tokenOf_14 ?_
          refine r_bipush hR (nI 48) (by decide) dX3_tokenOf_15 ?_
          refine r_icmp_lt hR 28 dX3_tokenOf_17 (by decide) (fun c17 => ?_) (fun c17 => ?_)
          · try simp (disch := omega) only [nI_ltI, nI_leI, nI_eq, bI_0, Decidable.not_not, lc_lt, lc_gt, lc_ge, lc_le, lc_eq, i64_toInt] at c17
            try simp (disch := omega) only [cv_lt, cv_le, cv_eq, nI_toInt, cv_0] at c17
            first
            | omega
            | refine r_iload0 hR dX3_tokenOf_28 ?_
              refine r_bipush hR (nI 59) (by decide) dX3_tokenOf_29 ?_
              refine r_icmp_ne hR 38 dX3_tokenOf_31 (by decide) (fun c31 => ?_) (fun c31 => ?_)
              · try simp (disch := omega) only [nI_ltI, nI_leI, nI_eq, bI_0, Decidable.not_not, lc_lt, lc_gt, lc_ge, lc_le, lc_eq, i64_toInt] at c31
                try simp (disch := omega) only [cv_lt, cv_le, cv_eq, nI_toInt, cv_0] at c31
                first
                | omega
                | refine r_iconst hR (nI 4) (by decide) dX3_tokenOf_38 ?_
                  refine r_iret hR dX3_tokenOf_39 ?_
                  refine ⟨congrArg (fun z => some (Value.int (nI z))) ?_, rfl⟩
                  unfold tokC
                  (repeat' split) <;> omega
              · try simp (disch := omega) only [nI_ltI, nI_leI, nI_eq, bI_0, Decidable.not_not, lc_lt, lc_gt, lc_ge, lc_le, lc_eq, i64_toInt] at c31
                try simp (disch := omega) only [cv_lt, cv_le, cv_eq, nI_toInt, cv_0] at c31
                first
                | omega
                | refine r_iconst hR (nI 3) (by decide) dX3_tokenOf_34 ?_
                  refine r_goto hR 39 dX3_tokenOf_35 (by decide) ?_
                  refine r_iret hR dX3_tokenOf_39 ?_
                  refine ⟨congrArg (fun z => some (Value.int (nI z))) ?_, rfl⟩
                  unfold tokC
                  (repeat' split) <;> omega
          · try simp (disch := omega) only [nI_ltI, nI_leI, nI_eq, bI_0, Decidable.not_not, lc_lt, lc_gt, lc_ge, lc_le, lc_eq, i64_toInt] at c17
            try simp (disch := omega) only [cv_lt, cv_le, cv_eq, nI_toInt, cv_0] at c17
            first
            | omega
            | refine r_iload0 hR dX3_tokenOf_20 ?_
              refine r_bipush hR (nI 57) (by decide) dX3_tokenOf_21 ?_
              refine r_icmp_gt hR 28 dX3_tokenOf_23 (by decide) (fun c23 => ?_) (fun c23 => ?_)
              · try simp (disch := omega) only [nI_ltI, nI_leI, nI_eq, bI_0, Decidable.not_not, lc_lt, lc_gt, lc_ge, lc_le, lc_eq, i64_toInt] at c23
                try simp (disch := omega) only [cv_lt, cv_le, cv_eq, nI_toInt, cv_0] at c23
                first
                | omega
                | refine r_iload0 hR dX3_tokenOf_28 ?_
                  refine r_bipush hR (nI 59) (by decide) dX3_tokenOf_29 ?_
                  refine r_icmp_ne hR 38 dX3_tokenOf_31 (by decide) (fun c31 => ?_) (fun c31 => ?_)
                  · try simp (disch := omega) only [nI_ltI, nI_leI, nI_eq, bI_0, Decidable.not_not, lc_lt, lc_gt, lc_ge, lc_le, lc_eq, i64_toInt] at c31
                    try simp (disch := omega) only [cv_lt, cv_le, cv_eq, nI_toInt, cv_0] at c31
                    first
                    | omega
                    | refine r_iconst hR (nI 4) (by decide) dX3_tokenOf_38 ?_
                      refine r_iret hR dX3_tokenOf_39 ?_
                      refine ⟨congrArg (fun z => some (Value.int (nI z))) ?_, rfl⟩
                      unfold tokC
                      (repeat' split) <;> omega
                  · try simp (disch := omega) only [nI_ltI, nI_leI, nI_eq, bI_0, Decidable.not_not, lc_lt, lc_gt, lc_ge, lc_le, lc_eq, i64_toInt] at c31
                    try simp (disch := omega) only [cv_lt, cv_le, cv_eq, nI_toInt, cv_0] at c31
                    first
                    | omega
                    | refine r_iconst hR (nI 3) (by decide) dX3_tokenOf_34 ?_
                      refine r_goto hR 39 dX3_tokenOf_35 (by decide) ?_
                      refine r_iret hR dX3_tokenOf_39 ?_
                      refine ⟨congrArg (fun z => some (Value.int (nI z))) ?_, rfl⟩
                      unfold tokC
                      (repeat' split) <;> omega
              · try simp (disch := omega) only [nI_ltI, nI_leI, nI_eq, bI_0, Decidable.not_not, lc_lt, lc_gt, lc_ge, lc_le, lc_eq, i64_toInt] at c23
                try simp (disch := omega) only [cv_lt, cv_le, cv_eq, nI_toInt, cv_0] at c23
                first
                | omega
                | refine r_iconst hR (nI 2) (by decide) dX3_tokenOf_26 ?_
                  refine r_iret hR dX3_tokenOf_27 ?_
                  refine ⟨congrArg (fun z => some (Value.int (nI z))) ?_, rfl⟩
                  unfold tokC
                  (repeat' split) <;> omega
      · try simp (disch := omega) only [nI_ltI, nI_leI, nI_eq, bI_0, Decidable.not_not, lc_lt, lc_gt, lc_ge, lc_le, lc_eq, i64_toInt] at c9
        try simp (disch := omega) only [cv_lt, cv_le, cv_eq, nI_toInt, cv_0] at c9
        first
        | omega
        | refine r_iconst hR (nI 1) (by decide) dX3_tokenOf_12 ?_
          refine r_iret hR dX3_tokenOf_13 ?_
          refine ⟨congrArg (fun z => some (Value.int (nI z))) ?_, rfl⟩
          unfold tokC
          (repeat' split) <;> omega

set_option maxHeartbeats 4000000 in
set_option maxRecDepth 100000 in
theorem t_X3_nextToken {G : gG} {M : gM} {T : Nat → Nat} {l : Nat} (h : ctP M T l) {p : Nat} (hp : M.1 8 0 4 = nI p) (hpl : p ≤ l) : Cf G mX3_nextToken 1 [.ref (ad G 8 0)] M none (lcM M T l (lexN T l p)) := by
  obtain ⟨hl, ht, hl2, hT⟩ := id h
  refine Ct.of (by decide +kernel) (k := 0) (ls0 := [some (.ref (ad G 8 0))]) rfl rfl (fun _ _ => trivial) ?_
  intro P hR
  obtain ⟨b, hb⟩ : ∃ b, run cSp T l p = b := ⟨_, rfl⟩
  have hpb := run_le (c := cSp) (T := T) hpl
  rw [hb] at hpb
  have eL : lexN T l p = lexB T l b := by unfold lexN; rw [hb]
  have Lw : ∀ (j q : Nat) (e k : Nat) (c : Nat → Bool), q + j = l → (∀ b, c b = true ↔ tokC b = k) → k ≤ 4 → run c T l q = e → cM M k b e = lcM M T l (lexN T l p) → P 112 [some (.ref (ad G 8 0))] [] (cM M k b q) := by
    intro j
    induction j with
    | zero =>
      intro q e k c hij hck hk4 hq he
      refine r_aload0 hR dX3_nextToken_112 ?_
      refine r_get hR (by first | decide | assumption | (simp only [gcnt_4, gcnt_1, gcnt_2, gcnt_3, gcnt_12, gcnt_13, gcnt_16]; omega)) fl_X3_19 rfl rfl dX3_nextToken_113 ?_
      try simp only [s3, cM_2, cM_3, cM_4]
      refine r_aload0 hR dX3_nextToken_116 ?_
      refine r_get hR (by first | decide | assumption | (simp only [gcnt_4, gcnt_1, gcnt_2, gcnt_3, gcnt_12, gcnt_13, gcnt_16]; omega)) fl_X3_15 rfl rfl dX3_nextToken_117 ?_
      try simp only [s3, cM_2, cM_3, cM_4]
      rw [(cM_ct h).1]
      refine r_icmp_ge hR 155 dX3_nextToken_120 (by decide) (fun c120 => ?_) (fun c120 => ?_)
      · try simp (disch := omega) only [nI_ltI, nI_leI, nI_eq, bI_0, Decidable.not_not, lc_lt, lc_gt, lc_ge, lc_le, lc_eq, i64_toInt] at c120
        try simp (disch := omega) only [cv_lt, cv_le, cv_eq, nI_toInt, cv_0] at c120
        first
        | omega
        | refine r_vret hR dX3_nextToken_155 ?_
          have e1 : q = e := by rw [← hq, run_no (by rw [hck]; omega)]
          exact ⟨rfl, by rw [e1]; exact he⟩
      · try simp (disch := omega) only [nI_ltI, nI_leI, nI_eq, bI_0, Decidable.not_not, lc_lt, lc_gt, lc_ge, lc_le, lc_eq, i64_toInt] at c120
        try simp (disch := omega) only [cv_lt, cv_le, cv_eq, nI_toInt, cv_0] at c120
        first
        | omega
        | refine r_aload0 hR dX3_nextToken_123 ?_
          refine r_get hR (by first | decide | assumption | (simp only [gcnt_4, gcnt_1, gcnt_2, gcnt_3, gcnt_12, gcnt_13, gcnt_16]; omega)) fl_X3_9 rfl rfl dX3_nextToken_124 ?_
          try simp only [s3, cM_2, cM_3, cM_4]
          refine r_aload0 hR dX3_nextToken_127 ?_
          refine r_get hR (by first | decide | assumption | (simp only [gcnt_4, gcnt_1, gcnt_2, gcnt_3, gcnt_12, gcnt_13, gcnt_16]; omega)) fl_X3_19 rfl rfl dX3_nextToken_128 ?_
          try simp only [s3, cM_2, cM_3, cM_4]
          refine r_iald hR (by first | decide | assumption | (simp only [gcnt_4, gcnt_1, gcnt_2, gcnt_3, gcnt_12, gcnt_13, gcnt_16]; omega)) rfl rfl (by omega) (by decide) dX3_nextToken_131 ?_
          try simp only [s3, cM_2, cM_3, cM_4]
          rw [(cM_ct h).2.1 q (by omega)]
          have htq := tok_le (T q)
          refine r_cs1v hR ks_X3_31 (by decide) (t_X3_tokenOf (hT _)) (Nat.le_of_ble_eq_true rfl) dX3_nextToken_132 ?_
          refine r_aload0 hR dX3_nextToken_135 ?_
          refine r_get hR (by first | decide | assumption | (simp only [gcnt_4, gcnt_1, gcnt_2, gcnt_3, gcnt_12, gcnt_13, gcnt_16]; omega)) fl_X3_28 rfl rfl dX3_nextToken_136 ?_
          try simp only [s3, cM_2, cM_3, cM_4]
          refine r_icmp_ne hR 155 dX3_nextToken_139 (by decide) (fun c139 => ?_) (fun c139 => ?_)
          · try simp (disch := omega) only [nI_ltI, nI_leI, nI_eq, bI_0, Decidable.not_not, lc_lt, lc_gt, lc_ge, lc_le, lc_eq, i64_toInt] at c139
            try simp (disch := omega) only [cv_lt, cv_le, cv_eq, nI_toInt, cv_0] at c139
            first
            | omega
            | refine r_vret hR dX3_nextToken_155 ?_
              have e1 : q = e := by rw [← hq, run_no (by rw [hck]; omega)]
              exact ⟨rfl, by rw [e1]; exact he⟩
          · try simp (disch := omega) only [nI_ltI, nI_leI, nI_eq, bI_0, Decidable.not_not, lc_lt, lc_gt, lc_ge, lc_le, lc_eq, i64_toInt] at c139
            try simp (disch := omega) only [cv_lt, cv_le, cv_eq, nI_toInt, cv_0] at c139
            first
            | omega
            | refine r_aload0 hR dX3_nextToken_142 ?_
              refine r_dup hR rfl dX3_nextToken_143 ?_
              refine r_get hR (by first | decide | assumption | (simp only [gcnt_4, gcnt_1, gcnt_2, gcnt_3, gcnt_12, gcnt_13, gcnt_16]; omega)) fl_X3_19 rfl rfl dX3_nextToken_144 ?_
              try simp only [s3, cM_2, cM_3, cM_4]
              refine r_iconst hR (nI 1) (by decide) dX3_nextToken_147 ?_
              refine r_iadd hR dX3_nextToken_148 ?_
              try rw [nI_add]
              refine r_puti hR (by first | decide | assumption | (simp only [gcnt_4, gcnt_1, gcnt_2, gcnt_3, gcnt_12, gcnt_13, gcnt_16]; omega)) fp_X3_19 rfl rfl (Nat.le_of_ble_eq_true rfl) rfl rfl dX3_nextToken_149 ?_
              rw [cM_b]
              refine r_goto hR 112 dX3_nextToken_152 (by decide) ?_
              omega
    | succ j ih =>
      intro q e k c hij hck hk4 hq he
      refine r_aload0 hR dX3_nextToken_112 ?_
      refine r_get hR (by first | decide | assumption | (simp only [gcnt_4, gcnt_1, gcnt_2, gcnt_3, gcnt_12, gcnt_13, gcnt_16]; omega)) fl_X3_19 rfl rfl dX3_nextToken_113 ?_
      try simp only [s3, cM_2, cM_3, cM_4]
      refine r_aload0 hR dX3_nextToken_116 ?_
      refine r_get hR (by first | decide | assumption | (simp only [gcnt_4, gcnt_1, gcnt_2, gcnt_3, gcnt_12, gcnt_13, gcnt_16]; omega)) fl_X3_15 rfl rfl dX3_nextToken_117 ?_
      try simp only [s3, cM_2, cM_3, cM_4]
      rw [(cM_ct h).1]
      refine r_icmp_ge hR 155 dX3_nextToken_120 (by decide) (fun c120 => ?_) (fun c120 => ?_)
      · try simp (disch := omega) only [nI_ltI, nI_leI, nI_eq, bI_0, Decidable.not_not, lc_lt, lc_gt, lc_ge, lc_le, lc_eq, i64_toInt] at c120
        try simp (disch := omega) only [cv_lt, cv_le, cv_eq, nI_toInt, cv_0] at c120
        first
        | omega
        | refine r_vret hR dX3_nextToken_155 ?_
          have e1 : q = e := by rw [← hq, run_no (by rw [hck]; omega)]
          exact ⟨rfl, by rw [e1]; exact he⟩
      · try simp (disch := omega) only [nI_ltI, nI_leI, nI_eq, bI_0, Decidable.not_not, lc_lt, lc_gt, lc_ge, lc_le, lc_eq, i64_toInt] at c120
        try simp (disch := omega) only [cv_lt, cv_le, cv_eq, nI_toInt, cv_0] at c120
        first
        | omega
        | refine r_aload0 hR dX3_nextToken_123 ?_
          refine r_get hR (by first | decide | assumption | (simp only [gcnt_4, gcnt_1, gcnt_2, gcnt_3, gcnt_12, gcnt_13, gcnt_16]; omega)) fl_X3_9 rfl rfl dX3_nextToken_124 ?_
          try simp only [s3, cM_2, cM_3, cM_4]
          refine r_aload0 hR dX3_nextToken_127 ?_
          refine r_get hR (by first | decide | assumption | (simp only [gcnt_4, gcnt_1, gcnt_2, gcnt_3, gcnt_12, gcnt_13, gcnt_16]; omega)) fl_X3_19 rfl rfl dX3_nextToken_128 ?_
          try simp only [s3, cM_2, cM_3, cM_4]
          refine r_iald hR (by first | decide | assumption | (simp only [gcnt_4, gcnt_1, gcnt_2, gcnt_3, gcnt_12, gcnt_13, gcnt_16]; omega)) rfl rfl (by omega) (by decide) dX3_nextToken_131 ?_
          try simp only [s3, cM_2, cM_3, cM_4]
          rw [(cM_ct h).2.1 q (by omega)]
          have htq := tok_le (T q)
          refine r_cs1v hR ks_X3_31 (by decide) (t_X3_tokenOf (hT _)) (Nat.le_of_ble_eq_true rfl) dX3_nextToken_132 ?_
          refine r_aload0 hR dX3_nextToken_135 ?_
          refine r_get hR (by first | decide | assumption | (simp only [gcnt_4, gcnt_1, gcnt_2, gcnt_3, gcnt_12, gcnt_13, gcnt_16]; omega)) fl_X3_28 rfl rfl dX3_nextToken_136 ?_
          try simp only [s3, cM_2, cM_3, cM_4]
          refine r_icmp_ne hR 155 dX3_nextToken_139 (by decide) (fun c139 => ?_) (fun c139 => ?_)
          · try simp (disch := omega) only [nI_ltI, nI_leI, nI_eq, bI_0, Decidable.not_not, lc_lt, lc_gt, lc_ge, lc_le, lc_eq, i64_toInt] at c139
            try simp (disch := omega) only [cv_lt, cv_le, cv_eq, nI_toInt, cv_0] at c139
            first
            | omega
            | refine r_vret hR dX3_nextToken_155 ?_
              have e1 : q = e := by rw [← hq, run_no (by rw [hck]; omega)]
              exact ⟨rfl, by rw [e1]; exact he⟩
          · try simp (disch := omega) only [nI_ltI, nI_leI, nI_eq, bI_0, Decidable.not_not, lc_lt, lc_gt, lc_ge, lc_le, lc_eq, i64_toInt] at c139
            try simp (disch := omega) only [cv_lt, cv_le, cv_eq, nI_toInt, cv_0] at c139
            first
            | omega
            | refine r_aload0 hR dX3_nextToken_142 ?_
              refine r_dup hR rfl dX3_nextToken_143 ?_
              refine r_get hR (by first | decide | assumption | (simp only [gcnt_4, gcnt_1, gcnt_2, gcnt_3, gcnt_12, gcnt_13, gcnt_16]; omega)) fl_X3_19 rfl rfl dX3_nextToken_144 ?_
              try simp only [s3, cM_2, cM_3, cM_4]
              refine r_iconst hR (nI 1) (by decide) dX3_nextToken_147 ?_
              refine r_iadd hR dX3_nextToken_148 ?_
              try rw [nI_add]
              refine r_puti hR (by first | decide | assumption | (simp only [gcnt_4, gcnt_1, gcnt_2, gcnt_3, gcnt_12, gcnt_13, gcnt_16]; omega)) fp_X3_19 rfl rfl (Nat.le_of_ble_eq_true rfl) rfl rfl dX3_nextToken_149 ?_
              rw [cM_b]
              refine r_goto hR 112 dX3_nextToken_152 (by decide) ?_
              exact ih (q + 1) e k c (by omega) hck hk4 (by rw [← hq]; exact (run_st (by omega) (by rw [hck]; omega)).symm) he
  have J46 : P 46 [some (.ref (ad G 8 0))] [] (seti M 8 0 3 (nI b)) := by
    refine r_aload0 hR dX3_nextToken_46 ?_
    refine r_aload0 hR dX3_nextToken_47 ?_
    refine r_get hR (by first | decide | assumption | (simp only [gcnt_4, gcnt_1, gcnt_2, gcnt_3, gcnt_12, gcnt_13, gcnt_16]; omega)) fl_X3_25 rfl rfl dX3_nextToken_48 ?_
    try simp only [s3, cM_2, cM_3, cM_4]
    refine r_puti hR (by first | decide | assumption | (simp only [gcnt_4, gcnt_1, gcnt_2, gcnt_3, gcnt_12, gcnt_13, gcnt_16]; omega)) fp_X3_19 rfl rfl (Nat.le_of_ble_eq_true rfl) rfl rfl dX3_nextToken_51 ?_
    refine r_aload0 hR dX3_nextToken_54 ?_
    refine r_iconst hR (nI 0) (by decide) dX3_nextToken_55 ?_
    refine r_puti hR (by first | decide | assumption | (simp only [gcnt_4, gcnt_1, gcnt_2, gcnt_3, gcnt_12, gcnt_13, gcnt_16]; omega)) fp_X3_28 rfl rfl (Nat.le_of_ble_eq_true rfl) rfl rfl dX3_nextToken_56 ?_
    rw [cM_0]
    refine r_aload0 hR dX3_nextToken_59 ?_
    refine r_get hR (by first | decide | assumption | (simp only [gcnt_4, gcnt_1, gcnt_2, gcnt_3, gcnt_12, gcnt_13, gcnt_16]; omega)) fl_X3_25 rfl rfl dX3_nextToken_60 ?_
    try simp only [s3, cM_2, cM_3, cM_4]
    refine r_aload0 hR dX3_nextToken_63 ?_
    refine r_get hR (by first | decide | assumption | (simp only [gcnt_4, gcnt_1, gcnt_2, gcnt_3, gcnt_12, gcnt_13, gcnt_16]; omega)) fl_X3_15 rfl rfl dX3_nextToken_64 ?_
    try simp only [s3, cM_2, cM_3, cM_4]
    rw [(cM_ct h).1]
    refine r_icmp_ge hR 96 dX3_nextToken_67 (by decide) (fun c67 => ?_) (fun c67 => ?_)
    · try simp (disch := omega) only [nI_ltI, nI_leI, nI_eq, bI_0, Decidable.not_not, lc_lt, lc_gt, lc_ge, lc_le, lc_eq, i64_toInt] at c67
      try simp (disch := omega) only [cv_lt, cv_le, cv_eq, nI_toInt, cv_0] at c67
      first
      | omega
      | refine r_aload0 hR dX3_nextToken_96 ?_
        refine r_get hR (by first | decide | assumption | (simp only [gcnt_4, gcnt_1, gcnt_2, gcnt_3, gcnt_12, gcnt_13, gcnt_16]; omega)) fl_X3_28 rfl rfl dX3_nextToken_97 ?_
        try simp only [s3, cM_2, cM_3, cM_4]
        refine r_iconst hR (nI 1) (by decide) dX3_nextToken_100 ?_
        refine r_icmp_eq hR 112 dX3_nextToken_101 (by decide) (fun c101 => ?_) (fun c101 => ?_)
        · try simp (disch := omega) only [nI_ltI, nI_leI, nI_eq, bI_0, Decidable.not_not, lc_lt, lc_gt, lc_ge, lc_le, lc_eq, i64_toInt] at c101
          try simp (disch := omega) only [cv_lt, cv_le, cv_eq, nI_toInt, cv_0] at c101
          first
          | omega
          | first
            | (have hcl : cLe (T b) = true := tok_1.mp (by omega)
               rw [show tokC (T b) = 1 by omega]
               refine Lw (l - (b + 1)) (b + 1) (run cLe T l b) 1 cLe (by omega) (fun b => tok_1.symm) (by decide) (run_st (by omega) hcl).symm ?_
               unfold lcM
               rw [eL]
               unfold lexB kC
               rw [if_neg hbl, if_pos hcl]
               dsimp only
               rw [if_neg hbl, tok_1.mpr hcl])
            | (have hcd : cDi (T b) = true := tok_2.mp (by omega)
               have hcl : ¬ cLe (T b) = true := fun z => by have := tok_1.mpr z; omega
               rw [show tokC (T b) = 2 by omega]
               refine Lw (l - (b + 1)) (b + 1) (run cDi T l b) 2 cDi (by omega) (fun b => tok_2.symm) (by decide) (run_st (by omega) hcd).symm ?_
               unfold lcM
               rw [eL]
               unfold lexB kC
               rw [if_neg hbl, if_neg hcl, if_pos hcd]
               dsimp only
               rw [if_neg hbl, tok_2.mpr hcd])
        · try simp (disch := omega) only [nI_ltI, nI_leI, nI_eq, bI_0, Decidable.not_not, lc_lt, lc_gt, lc_ge, lc_le, lc_eq, i64_toInt] at c101
          try simp (disch := omega) only [cv_lt, cv_le, cv_eq, nI_toInt, cv_0] at c101
          first
          | omega
          | refine r_aload0 hR dX3_nextToken_104 ?_
            refine r_get hR (by first | decide | assumption | (simp only [gcnt_4, gcnt_1, gcnt_2, gcnt_3, gcnt_12, gcnt_13, gcnt_16]; omega)) fl_X3_28 rfl rfl dX3_nextToken_105 ?_
            try simp only [s3, cM_2, cM_3, cM_4]
            refine r_iconst hR (nI 2) (by decide) dX3_nextToken_108 ?_
            refine r_icmp_ne hR 155 dX3_nextToken_109 (by decide) (fun c109 => ?_) (fun c109 => ?_)
            · try simp (disch := omega) only [nI_ltI, nI_leI, nI_eq, bI_0, Decidable.not_not, lc_lt, lc_gt, lc_ge, lc_le, lc_eq, i64_toInt] at c109
              try simp (disch := omega) only [cv_lt, cv_le, cv_eq, nI_toInt, cv_0] at c109
              first
              | omega
              | refine r_vret hR dX3_nextToken_155 ?_
                first
                | (have hbl : b = l := by omega
                   refine ⟨rfl, ?_⟩
                   unfold lcM
                   rw [eL]
                   unfold lexB kC
                   rw [if_pos hbl]
                   dsimp only
                   rw [if_pos hbl])
                | (have hcl : ¬ cLe (T b) = true := fun z => by have := tok_1.mpr z; omega
                   have hcd : ¬ cDi (T b) = true := fun z => by have := tok_2.mpr z; omega
                   refine ⟨rfl, ?_⟩
                   unfold lcM
                   rw [eL]
                   unfold lexB kC
                   rw [if_neg hbl, if_neg hcl, if_neg hcd]
                   dsimp only
                   rw [if_neg hbl])
            · try simp (disch := omega) only [nI_ltI, nI_leI, nI_eq, bI_0, Decidable.not_not, lc_lt, lc_gt, lc_ge, lc_le, lc_eq, i64_toInt] at c109
              try simp (disch := omega) only [cv_lt, cv_le, cv_eq, nI_toInt, cv_0] at c109
              first
              | omega
              | first
                | (have hcl : cLe (T b) = true := tok_1.mp (by omega)
                   rw [show tokC (T b) = 1 by omega]
                   refine Lw (l - (b + 1)) (b + 1) (run cLe T l b) 1 cLe (by omega) (fun b => tok_1.symm) (by decide) (run_st (by omega) hcl).symm ?_
                   unfold lcM
                   rw [eL]
                   unfold lexB kC
                   rw [if_neg hbl, if_pos hcl]
                   dsimp only
                   rw [if_neg hbl, tok_1.mpr hcl])
                | (have hcd : cDi (T b) = true := tok_2.mp (by omega)
                   have hcl : ¬ cLe (T b) = true := fun z => by have := tok_1.mpr z; omega
                   rw [show tokC (T b) = 2 by omega]
                   refine Lw (l - (b + 1)) (b + 1) (run cDi T l b) 2 cDi (by omega) (fun b => tok_2.symm) (by decide) (run_st (by omega) hcd).symm ?_
                   unfold lcM
                   rw [eL]
                   unfold lexB kC
                   rw [if_neg hbl, if_neg hcl, if_pos hcd]
                   dsimp only
                   rw [if_neg hbl, tok_2.mpr hcd])
    · try simp (disch := omega) only [nI_ltI, nI_leI, nI_eq, bI_0, Decidable.not_not, lc_lt, lc_gt, lc_ge, lc_le, lc_eq, i64_toInt] at c67
      try simp (disch := omega) only [cv_lt, cv_le, cv_eq, nI_toInt, cv_0] at c67
      first
      | omega
      | have hbl : ¬ b = l := by omega
        refine r_aload0 hR dX3_nextToken_70 ?_
        refine r_aload0 hR dX3_nextToken_71 ?_
        refine r_get hR (by first | decide | assumption | (simp only [gcnt_4, gcnt_1, gcnt_2, gcnt_3, gcnt_12, gcnt_13, gcnt_16]; omega)) fl_X3_9 rfl rfl dX3_nextToken_72 ?_
        try simp only [s3, cM_2, cM_3, cM_4]
        refine r_aload0 hR dX3_nextToken_75 ?_
        refine r_get hR (by first | decide | assumption | (simp only [gcnt_4, gcnt_1, gcnt_2, gcnt_3, gcnt_12, gcnt_13, gcnt_16]; omega)) fl_X3_25 rfl rfl dX3_nextToken_76 ?_
        try simp only [s3, cM_2, cM_3, cM_4]
        refine r_iald hR (by first | decide | assumption | (simp only [gcnt_4, gcnt_1, gcnt_2, gcnt_3, gcnt_12, gcnt_13, gcnt_16]; omega)) rfl rfl (by omega) (by decide) dX3_nextToken_79 ?_
        try simp only [s3, cM_2, cM_3, cM_4]
        rw [(cM_ct h).2.1 b (by omega)]
        have htb := tok_le (T b)
        refine r_cs1v hR ks_X3_31 (by decide) (t_X3_tokenOf (hT _)) (Nat.le_of_ble_eq_true rfl) dX3_nextToken_80 ?_
        refine r_puti hR (by first | decide | assumption | (simp only [gcnt_4, gcnt_1, gcnt_2, gcnt_3, gcnt_12, gcnt_13, gcnt_16]; omega)) fp_X3_28 rfl rfl (Nat.le_of_ble_eq_true rfl) rfl rfl dX3_nextToken_83 ?_
        rw [cM_t]
        refine r_aload0 hR dX3_nextToken_86 ?_
        refine r_dup hR rfl dX3_nextToken_87 ?_
        refine r_get hR (by first | decide | assumption | (simp only [gcnt_4, gcnt_1, gcnt_2, gcnt_3, gcnt_12, gcnt_13, gcnt_16]; omega)) fl_X3_19 rfl rfl dX3_nextToken_88 ?_
        try simp only [s3, cM_2, cM_3, cM_4]
        refine r_iconst hR (nI 1) (by decide) dX3_nextToken_91 ?_
        refine r_iadd hR dX3_nextToken_92 ?_
        try rw [nI_add]
        refine r_puti hR (by first | decide | assumption | (simp only [gcnt_4, gcnt_1, gcnt_2, gcnt_3, gcnt_12, gcnt_13, gcnt_16]; omega)) fp_X3_19 rfl rfl (Nat.le_of_ble_eq_true rfl) rfl rfl dX3_nextToken_93 ?_
        rw [cM_b]
        refine r_aload0 hR dX3_nextToken_96 ?_
        refine r_get hR (by first | decide | assumption | (simp only [gcnt_4, gcnt_1, gcnt_2, gcnt_3, gcnt_12, gcnt_13, gcnt_16]; omega)) fl_X3_28 rfl rfl dX3_nextToken_97 ?_
        try simp only [s3, cM_2, cM_3, cM_4]
        refine r_iconst hR (nI 1) (by decide) dX3_nextToken_100 ?_
        refine r_icmp_eq hR 112 dX3_nextToken_101 (by decide) (fun c101 => ?_) (fun c101 => ?_)
        · try simp (disch := omega) only [nI_ltI, nI_leI, nI_eq, bI_0, Decidable.not_not, lc_lt, lc_gt, lc_ge, lc_le, lc_eq, i64_toInt] at c101
          try simp (disch := omega) only [cv_lt, cv_le, cv_eq, nI_toInt, cv_0] at c101
          first
          | omega
          | first
            | (have hcl : cLe (T b) = true := tok_1.mp (by omega)
               rw [show tokC (T b) = 1 by omega]
               refine Lw (l - (b + 1)) (b + 1) (run cLe T l b) 1 cLe (by omega) (fun b => tok_1.symm) (by decide) (run_st (by omega) hcl).symm ?_
               unfold lcM
               rw [eL]
               unfold lexB kC
               rw [if_neg hbl, if_pos hcl]
               dsimp only
               rw [if_neg hbl, tok_1.mpr hcl])
            | (have hcd : cDi (T b) = true := tok_2.mp (by omega)
               have hcl : ¬ cLe (T b) = true := fun z => by have := tok_1.mpr z; omega
               rw [show tokC (T b) = 2 by omega]
               refine Lw (l - (b + 1)) (b + 1) (run cDi T l b) 2 cDi (by omega) (fun b => tok_2.symm) (by decide) (run_st (by omega) hcd).symm ?_
               unfold lcM
               rw [eL]
               unfold lexB kC
               rw [if_neg hbl, if_neg hcl, if_pos hcd]
               dsimp only
               rw [if_neg hbl, tok_2.mpr hcd])
        · try simp (disch := omega) only [nI_ltI, nI_leI, nI_eq, bI_0, Decidable.not_not, lc_lt, lc_gt, lc_ge, lc_le, lc_eq, i64_toInt] at c101
          try simp (disch := omega) only [cv_lt, cv_le, cv_eq, nI_toInt, cv_0] at c101
          first
          | omega
          | refine r_aload0 hR dX3_nextToken_104 ?_
            refine r_get hR (by first | decide | assumption | (simp only [gcnt_4, gcnt_1, gcnt_2, gcnt_3, gcnt_12, gcnt_13, gcnt_16]; omega)) fl_X3_28 rfl rfl dX3_nextToken_105 ?_
            try simp only [s3, cM_2, cM_3, cM_4]
            refine r_iconst hR (nI 2) (by decide) dX3_nextToken_108 ?_
            refine r_icmp_ne hR 155 dX3_nextToken_109 (by decide) (fun c109 => ?_) (fun c109 => ?_)
            · try simp (disch := omega) only [nI_ltI, nI_leI, nI_eq, bI_0, Decidable.not_not, lc_lt, lc_gt, lc_ge, lc_le, lc_eq, i64_toInt] at c109
              try simp (disch := omega) only [cv_lt, cv_le, cv_eq, nI_toInt, cv_0] at c109
              first
              | omega
              | refine r_vret hR dX3_nextToken_155 ?_
                first
                | (have hbl : b = l := by omega
                   refine ⟨rfl, ?_⟩
                   unfold lcM
                   rw [eL]
                   unfold lexB kC
                   rw [if_pos hbl]
                   dsimp only
                   rw [if_pos hbl])
                | (have hcl : ¬ cLe (T b) = true := fun z => by have := tok_1.mpr z; omega
                   have hcd : ¬ cDi (T b) = true := fun z => by have := tok_2.mpr z; omega
                   refine ⟨rfl, ?_⟩
                   unfold lcM
                   rw [eL]
                   unfold lexB kC
                   rw [if_neg hbl, if_neg hcl, if_neg hcd]
                   dsimp only
                   rw [if_neg hbl])
            · try simp (disch := omega) only [nI_ltI, nI_leI, nI_eq, bI_0, Decidable.not_not, lc_lt, lc_gt, lc_ge, lc_le, lc_eq, i64_toInt] at c109
              try simp (disch := omega) only [cv_lt, cv_le, cv_eq, nI_toInt, cv_0] at c109
              first
              | omega
              | first
                | (have hcl : cLe (T b) = true := tok_1.mp (by omega)
                   rw [show tokC (T b) = 1 by omega]
                   refine Lw (l - (b + 1)) (b + 1) (run cLe T l b) 1 cLe (by omega) (fun b => tok_1.symm) (by decide) (run_st (by omega) hcl).symm ?_
                   unfold lcM
                   rw [eL]
                   unfold lexB kC
                   rw [if_neg hbl, if_pos hcl]
                   dsimp only
                   rw [if_neg hbl, tok_1.mpr hcl])
                | (have hcd : cDi (T b) = true := tok_2.mp (by omega)
                   have hcl : ¬ cLe (T b) = true := fun z => by have := tok_1.mpr z; omega
                   rw [show tokC (T b) = 2 by omega]
                   refine Lw (l - (b + 1)) (b + 1) (run cDi T l b) 2 cDi (by omega) (fun b => tok_2.symm) (by decide) (run_st (by omega) hcd).symm ?_
                   unfold lcM
                   rw [eL]
                   unfold lexB kC
                   rw [if_neg hbl, if_neg hcl, if_pos hcd]
                   dsimp only
                   rw [if_neg hbl, tok_2.mpr hcd])
  have L0 : ∀ (j q : Nat), q + j = l → run cSp T l q = b → P 8 [some (.ref (ad G 8 0))] [] (seti M 8 0 3 (nI q)) := by
    intro j
    induction j with
    | zero =>
      intro q  hij hq
      refine r_aload0 hR dX3_nextToken_8 ?_
      refine r_get hR (by first | decide | assumption | (simp only [gcnt_4, gcnt_1, gcnt_2, gcnt_3, gcnt_12, gcnt_13, gcnt_16]; omega)) fl_X3_25 rfl rfl dX3_nextToken_9 ?_
      try simp only [s3, cM_2, cM_3, cM_4]
      refine r_aload0 hR dX3_nextToken_12 ?_
      refine r_get hR (by first | decide | assumption | (simp only [gcnt_4, gcnt_1, gcnt_2, gcnt_3, gcnt_12, gcnt_13, gcnt_16]; omega)) fl_X3_15 rfl rfl dX3_nextToken_13 ?_
      try simp only [s3, cM_2, cM_3, cM_4]
      rw [(ct_s h (by decide)).1]
      refine r_icmp_ge hR 46 dX3_nextToken_16 (by decide) (fun c16 => ?_) (fun c16 => ?_)
      · try simp (disch := omega) only [nI_ltI, nI_leI, nI_eq, bI_0, Decidable.not_not, lc_lt, lc_gt, lc_ge, lc_le, lc_eq, i64_toInt] at c16
        try simp (disch := omega) only [cv_lt, cv_le, cv_eq, nI_toInt, cv_0] at c16
        first
        | omega
        | have e1 : q = b := by rw [← hq, run_no (by rw [cSp_i]; omega)]
          rw [e1]
          exact J46
      · try simp (disch := omega) only [nI_ltI, nI_leI, nI_eq, bI_0, Decidable.not_not, lc_lt, lc_gt, lc_ge, lc_le, lc_eq, i64_toInt] at c16
        try simp (disch := omega) only [cv_lt, cv_le, cv_eq, nI_toInt, cv_0] at c16
        first
        | omega
        | refine r_aload0 hR dX3_nextToken_19 ?_
          refine r_get hR (by first | decide | assumption | (simp only [gcnt_4, gcnt_1, gcnt_2, gcnt_3, gcnt_12, gcnt_13, gcnt_16]; omega)) fl_X3_9 rfl rfl dX3_nextToken_20 ?_
          try simp only [s3, cM_2, cM_3, cM_4]
          refine r_aload0 hR dX3_nextToken_23 ?_
          refine r_get hR (by first | decide | assumption | (simp only [gcnt_4, gcnt_1, gcnt_2, gcnt_3, gcnt_12, gcnt_13, gcnt_16]; omega)) fl_X3_25 rfl rfl dX3_nextToken_24 ?_
          try simp only [s3, cM_2, cM_3, cM_4]
          refine r_iald hR (by first | decide | assumption | (simp only [gcnt_4, gcnt_1, gcnt_2, gcnt_3, gcnt_12, gcnt_13, gcnt_16]; omega)) rfl rfl (by omega) (by decide) dX3_nextToken_27 ?_
          try simp only [s3, cM_2, cM_3, cM_4]
          rw [(ct_s h (by decide)).2.1 q (by omega)]
          have hTq := hT q
          refine r_bipush hR (nI 32) (by decide) dX3_nextToken_28 ?_
          refine r_icmp_ne hR 46 dX3_nextToken_30 (by decide) (fun c30 => ?_) (fun c30 => ?_)
          · try simp (disch := omega) only [nI_ltI, nI_leI, nI_eq, bI_0, Decidable.not_not, lc_lt, lc_gt, lc_ge, lc_le, lc_eq, i64_toInt] at c30
            try simp (disch := omega) only [cv_lt, cv_le, cv_eq, nI_toInt, cv_0] at c30
            first
            | omega
            | have e1 : q = b := by rw [← hq, run_no (by rw [cSp_i]; omega)]
              rw [e1]
              exact J46
          · try simp (disch := omega) only [nI_ltI, nI_leI, nI_eq, bI_0, Decidable.not_not, lc_lt, lc_gt, lc_ge, lc_le, lc_eq, i64_toInt] at c30
            try simp (disch := omega) only [cv_lt, cv_le, cv_eq, nI_toInt, cv_0] at c30
            first
            | omega
            | refine r_aload0 hR dX3_nextToken_33 ?_
              refine r_dup hR rfl dX3_nextToken_34 ?_
              refine r_get hR (by first | decide | assumption | (simp only [gcnt_4, gcnt_1, gcnt_2, gcnt_3, gcnt_12, gcnt_13, gcnt_16]; omega)) fl_X3_25 rfl rfl dX3_nextToken_35 ?_
              try simp only [s3, cM_2, cM_3, cM_4]
              refine r_iconst hR (nI 1) (by decide) dX3_nextToken_38 ?_
              refine r_iadd hR dX3_nextToken_39 ?_
              try rw [nI_add]
              refine r_puti hR (by first | decide | assumption | (simp only [gcnt_4, gcnt_1, gcnt_2, gcnt_3, gcnt_12, gcnt_13, gcnt_16]; omega)) fp_X3_25 rfl rfl (Nat.le_of_ble_eq_true rfl) rfl rfl dX3_nextToken_40 ?_
              rw [seti_seti]
              refine r_goto hR 8 dX3_nextToken_43 (by decide) ?_
              omega
    | succ j ih =>
      intro q  hij hq
      refine r_aload0 hR dX3_nextToken_8 ?_
      refine r_get hR (by first | decide | assumption | (simp only [gcnt_4, gcnt_1, gcnt_2, gcnt_3, gcnt_12, gcnt_13, gcnt_16]; omega)) fl_X3_25 rfl rfl dX3_nextToken_9 ?_
      try simp only [s3, cM_2, cM_3, cM_4]
      refine r_aload0 hR dX3_nextToken_12 ?_
      refine r_get hR (by first | decide | assumption | (simp only [gcnt_4, gcnt_1, gcnt_2, gcnt_3, gcnt_12, gcnt_13, gcnt_16]; omega)) fl_X3_15 rfl rfl dX3_nextToken_13 ?_
      try simp only [s3, cM_2, cM_3, cM_4]
      rw [(ct_s h (by decide)).1]
      refine r_icmp_ge hR 46 dX3_nextToken_16 (by decide) (fun c16 => ?_) (fun c16 => ?_)
      · try simp (disch := omega) only [nI_ltI, nI_leI, nI_eq, bI_0, Decidable.not_not, lc_lt, lc_gt, lc_ge, lc_le, lc_eq, i64_toInt] at c16
        try simp (disch := omega) only [cv_lt, cv_le, cv_eq, nI_toInt, cv_0] at c16
        first
        | omega
        | have e1 : q = b := by rw [← hq, run_no (by rw [cSp_i]; omega)]
          rw [e1]
          exact J46
      · try simp (disch := omega) only [nI_ltI, nI_leI, nI_eq, bI_0, Decidable.not_not, lc_lt, lc_gt, lc_ge, lc_le, lc_eq, i64_toInt] at c16
        try simp (disch := omega) only [cv_lt, cv_le, cv_eq, nI_toInt, cv_0] at c16
        first
        | omega
        | refine r_aload0 hR dX3_nextToken_19 ?_
          refine r_get hR (by first | decide | assumption | (simp only [gcnt_4, gcnt_1, gcnt_2, gcnt_3, gcnt_12, gcnt_13, gcnt_16]; omega)) fl_X3_9 rfl rfl dX3_nextToken_20 ?_
          try simp only [s3, cM_2, cM_3, cM_4]
          refine r_aload0 hR dX3_nextToken_23 ?_
          refine r_get hR (by first | decide | assumption | (simp only [gcnt_4, gcnt_1, gcnt_2, gcnt_3, gcnt_12, gcnt_13, gcnt_16]; omega)) fl_X3_25 rfl rfl dX3_nextToken_24 ?_
          try simp only [s3, cM_2, cM_3, cM_4]
          refine r_iald hR (by first | decide | assumption | (simp only [gcnt_4, gcnt_1, gcnt_2, gcnt_3, gcnt_12, gcnt_13, gcnt_16]; omega)) rfl rfl (by omega) (by decide) dX3_nextToken_27 ?_
          try simp only [s3, cM_2, cM_3, cM_4]
          rw [(ct_s h (by decide)).2.1 q (by omega)]
          have hTq := hT q
          refine r_bipush hR (nI 32) (by decide) dX3_nextToken_28 ?_
          refine r_icmp_ne hR 46 dX3_nextToken_30 (by decide) (fun c30 => ?_) (fun c30 => ?_)
          · try simp (disch := omega) only [nI_ltI, nI_leI, nI_eq, bI_0, Decidable.not_not, lc_lt, lc_gt, lc_ge, lc_le, lc_eq, i64_toInt] at c30
            try simp (disch := omega) only [cv_lt, cv_le, cv_eq, nI_toInt, cv_0] at c30
            first
            | omega
            | have e1 : q = b := by rw [← hq, run_no (by rw [cSp_i]; omega)]
              rw [e1]
              exact J46
          · try simp (disch := omega) only [nI_ltI, nI_leI, nI_eq, bI_0, Decidable.not_not, lc_lt, lc_gt, lc_ge, lc_le, lc_eq, i64_toInt] at c30
            try simp (disch := omega) only [cv_lt, cv_le, cv_eq, nI_toInt, cv_0] at c30
            first
            | omega
            | refine r_aload0 hR dX3_nextToken_33 ?_
              refine r_dup hR rfl dX3_nextToken_34 ?_
              refine r_get hR (by first | decide | assumption | (simp only [gcnt_4, gcnt_1, gcnt_2, gcnt_3, gcnt_12, gcnt_13, gcnt_16]; omega)) fl_X3_25 rfl rfl dX3_nextToken_35 ?_
              try simp only [s3, cM_2, cM_3, cM_4]
              refine r_iconst hR (nI 1) (by decide) dX3_nextToken_38 ?_
              refine r_iadd hR dX3_nextToken_39 ?_
              try rw [nI_add]
              refine r_puti hR (by first | decide | assumption | (simp only [gcnt_4, gcnt_1, gcnt_2, gcnt_3, gcnt_12, gcnt_13, gcnt_16]; omega)) fp_X3_25 rfl rfl (Nat.le_of_ble_eq_true rfl) rfl rfl dX3_nextToken_40 ?_
              rw [seti_seti]
              refine r_goto hR 8 dX3_nextToken_43 (by decide) ?_
              exact ih (q + 1) (by omega) (by rw [← hq]; exact (run_st (by omega) (by rw [cSp_i]; omega)).symm)
  refine r_aload0 hR dX3_nextToken_0 ?_
  refine r_aload0 hR dX3_nextToken_1 ?_
  refine r_get hR (by first | decide | assumption | (simp only [gcnt_4, gcnt_1, gcnt_2, gcnt_3, gcnt_12, gcnt_13, gcnt_16]; omega)) fl_X3_19 rfl rfl dX3_nextToken_2 ?_
  rw [hp]
  refine r_puti hR (by first | decide | assumption | (simp only [gcnt_4, gcnt_1, gcnt_2, gcnt_3, gcnt_12, gcnt_13, gcnt_16]; omega)) fp_X3_25 rfl rfl (Nat.le_of_ble_eq_true rfl) rfl rfl dX3_nextToken_5 ?_
  exact L0 (l - p) p (by omega) hb

