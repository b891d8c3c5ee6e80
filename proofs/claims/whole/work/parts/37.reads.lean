theorem s11 (M : gM) (x : Int32) : (seti M 15 0 11 x).1 15 0 11 = x := by rw [seti_r, if_pos ⟨rfl, rfl, rfl⟩]
theorem seti_id {M : gM} {r i k : Nat} {x : Int32} (h : M.1 r i k = x) : seti M r i k x = M := by
  refine gM_ext (fun r' i' k' => ?_) rfl
  rw [seti_r]
  split
  · rename_i z; obtain ⟨rfl, rfl, rfl⟩ := z; exact h.symm
  · rfl
theorem valP_le {T : Nat → Nat} (hT : ∀ j, T j < 256) (b k : Nat) : valP T b k ≤ 10245 := by
  induction k with
  | zero => exact Nat.zero_le _
  | succ k ih =>
    unfold valP
    have := hT (b + k)
    split <;> omega
set_option maxHeartbeats 4000000 in
set_option maxRecDepth 100000 in
theorem t_X8_reads {G : gG} {M : gM} {T : Nat → Nat} {l : Nat} (h : tapP M T l) {p : Nat} (hp : M.1 15 0 11 = nI p) (hpl : p ≤ l) : Cf G mX8_reads 2 [.ref (ad G 15 0)] M none (lxM M (lexN T l p)) := by
  obtain ⟨hl, ht, hl2, hT⟩ := id h
  refine Ct.of (by decide +kernel) (k := 0) (ls0 := [some (.ref (ad G 15 0))]) rfl rfl (fun _ _ => trivial) ?_
  intro P hR
  obtain ⟨b, hb⟩ : ∃ b, run cSp T l p = b := ⟨_, rfl⟩
  have hpb := run_le (c := cSp) (T := T) hpl
  rw [hb] at hpb
  have eL : lexN T l p = lexB T l b := by unfold lexN; rw [hb]
  have J28 : P 28 [some (.ref (ad G 15 0))] [] (seti M 15 0 11 (nI b)) := by
    refine r_aload0 hR dX8_reads_28 ?_
    refine r_aload0 hR dX8_reads_29 ?_
    refine r_get hR (by first | decide | assumption | (simp only [gcnt_4, gcnt_1, gcnt_2, gcnt_3, gcnt_12, gcnt_13, gcnt_16]; omega)) fl_X8_155 rfl rfl dX8_reads_30 ?_
    try simp only [s11, X_11, X_12, X_10]
    refine r_puti hR (by first | decide | assumption | (simp only [gcnt_4, gcnt_1, gcnt_2, gcnt_3, gcnt_12, gcnt_13, gcnt_16]; omega)) fp_X8_152 rfl rfl (Nat.le_of_ble_eq_true rfl) rfl rfl dX8_reads_33 ?_
    refine r_aload0 hR dX8_reads_36 ?_
    refine r_iconst hR (nI 0) (by decide) dX8_reads_37 ?_
    refine r_puti hR (by first | decide | assumption | (simp only [gcnt_4, gcnt_1, gcnt_2, gcnt_3, gcnt_12, gcnt_13, gcnt_16]; omega)) fp_X8_165 rfl rfl (Nat.le_of_ble_eq_true rfl) rfl rfl dX8_reads_38 ?_
    rw [X_0]
    refine r_aload0 hR dX8_reads_41 ?_
    refine r_get hR (by first | decide | assumption | (simp only [gcnt_4, gcnt_1, gcnt_2, gcnt_3, gcnt_12, gcnt_13, gcnt_16]; omega)) fl_X8_155 rfl rfl dX8_reads_42 ?_
    try simp only [s11, X_11, X_12, X_10]
    refine r_aload0 hR dX8_reads_45 ?_
    refine r_get hR (by first | decide | assumption | (simp only [gcnt_4, gcnt_1, gcnt_2, gcnt_3, gcnt_12, gcnt_13, gcnt_16]; omega)) fl_X8_145 rfl rfl dX8_reads_46 ?_
    try simp only [s11, X_11, X_12, X_10]
    rw [(X_tap h).1]
    refine r_icmp_ne hR 61 dX8_reads_49 (by decide) (fun c49 => ?_) (fun c49 => ?_)
    · try simp (disch := omega) only [nI_ltI, nI_leI, nI_eq, bI_0, Decidable.not_not, lc_lt, lc_gt, lc_ge, lc_le, lc_eq, i64_toInt] at c49
      try simp (disch := omega) only [cv_lt, cv_le, cv_eq, nI_toInt, cv_0] at c49
      first
      | omega
      | have hbl : ¬ b = l := by omega
        refine r_aload0 hR dX8_reads_61 ?_
        refine r_aload0 hR dX8_reads_62 ?_
        refine r_get hR (by first | decide | assumption | (simp only [gcnt_4, gcnt_1, gcnt_2, gcnt_3, gcnt_12, gcnt_13, gcnt_16]; omega)) fl_X8_155 rfl rfl dX8_reads_63 ?_
        try simp only [s11, X_11, X_12, X_10]
        refine r_bipush hR (nI 97) (by decide) dX8_reads_66 ?_
        refine r_bipush hR (nI 122) (by decide) dX8_reads_68 ?_
        refine r_cv3v hR kv_X8_161 (by decide) (t_X8_isByte (X_tap h) (by omega) (by decide) (by decide)) (by first | decide | assumption | (simp only [gcnt_4, gcnt_1, gcnt_2, gcnt_3, gcnt_12, gcnt_13, gcnt_16]; omega)) rfl rfl (Nat.le_of_ble_eq_true rfl) dX8_reads_70 ?_
        refine r_if_eq hR 115 dX8_reads_73 (by decide) (fun c73 => ?_) (fun c73 => ?_)
        · try simp (disch := omega) only [nI_ltI, nI_leI, nI_eq, bI_0, Decidable.not_not, lc_lt, lc_gt, lc_ge, lc_le, lc_eq, i64_toInt] at c73
          try simp (disch := omega) only [cv_lt, cv_le, cv_eq, nI_toInt, cv_0] at c73
          first
          | omega
          | have hle : ¬ cLe (T b) = true := by rw [cLe_i]; omega
            refine r_aload0 hR dX8_reads_115 ?_
            refine r_aload0 hR dX8_reads_116 ?_
            refine r_get hR (by first | decide | assumption | (simp only [gcnt_4, gcnt_1, gcnt_2, gcnt_3, gcnt_12, gcnt_13, gcnt_16]; omega)) fl_X8_155 rfl rfl dX8_reads_117 ?_
            try simp only [s11, X_11, X_12, X_10]
            refine r_bipush hR (nI 48) (by decide) dX8_reads_120 ?_
            refine r_bipush hR (nI 57) (by decide) dX8_reads_122 ?_
            refine r_cv3v hR kv_X8_161 (by decide) (t_X8_isByte (X_tap h) (by omega) (by decide) (by decide)) (by first | decide | assumption | (simp only [gcnt_4, gcnt_1, gcnt_2, gcnt_3, gcnt_12, gcnt_13, gcnt_16]; omega)) rfl rfl (Nat.le_of_ble_eq_true rfl) dX8_reads_124 ?_
            refine r_if_eq hR 208 dX8_reads_127 (by decide) (fun c127 => ?_) (fun c127 => ?_)
            · try simp (disch := omega) only [nI_ltI, nI_leI, nI_eq, bI_0, Decidable.not_not, lc_lt, lc_gt, lc_ge, lc_le, lc_eq, i64_toInt] at c127
              try simp (disch := omega) only [cv_lt, cv_le, cv_eq, nI_toInt, cv_0] at c127
              first
              | omega
              | have hdi : ¬ cDi (T b) = true := by rw [cDi_i]; omega
                have J231 : P 231 [some (.ref (ad G 15 0))] [.int (nI (if T b = 59 then 21 else 23)), .ref (ad G 15 0)] (X8 M b b 0) := by
                  refine r_puti hR (by first | decide | assumption | (simp only [gcnt_4, gcnt_1, gcnt_2, gcnt_3, gcnt_12, gcnt_13, gcnt_16]; omega)) fp_X8_168 rfl rfl (Nat.le_of_ble_eq_true rfl) rfl rfl dX8_reads_231 ?_
                  refine r_aload0 hR dX8_reads_234 ?_
                  refine r_dup hR rfl dX8_reads_235 ?_
                  refine r_get hR (by first | decide | assumption | (simp only [gcnt_4, gcnt_1, gcnt_2, gcnt_3, gcnt_12, gcnt_13, gcnt_16]; omega)) fl_X8_155 rfl rfl dX8_reads_236 ?_
                  try simp only [s11, X_11, X_12, X_10]
                  refine r_nm (nI b) (by rw [seti_r, if_neg (by omega), X_11]) ?_
                  refine r_iconst hR (nI 1) (by decide) dX8_reads_239 ?_
                  refine r_iadd hR dX8_reads_240 ?_
                  try rw [nI_add]
                  refine r_puti hR (by first | decide | assumption | (simp only [gcnt_4, gcnt_1, gcnt_2, gcnt_3, gcnt_12, gcnt_13, gcnt_16]; omega)) fp_X8_155 rfl rfl (Nat.le_of_ble_eq_true rfl) rfl rfl dX8_reads_241 ?_
                  rw [X_tk]
                  refine r_vret hR dX8_reads_244 ?_
                  refine ⟨rfl, ?_⟩
                  rw [eL]
                  unfold lexB
                  rw [if_neg hbl, if_neg hle, if_neg hdi]
                  rfl
                refine r_aload0 hR dX8_reads_208 ?_
                refine r_aload0 hR dX8_reads_209 ?_
                refine r_aload0 hR dX8_reads_210 ?_
                refine r_get hR (by first | decide | assumption | (simp only [gcnt_4, gcnt_1, gcnt_2, gcnt_3, gcnt_12, gcnt_13, gcnt_16]; omega)) fl_X8_155 rfl rfl dX8_reads_211 ?_
                try simp only [s11, X_11, X_12, X_10]
                refine r_bipush hR (nI 59) (by decide) dX8_reads_214 ?_
                refine r_bipush hR (nI 59) (by decide) dX8_reads_216 ?_
                refine r_cv3v hR kv_X8_161 (by decide) (t_X8_isByte (X_tap h) (by omega) (by decide) (by decide)) (by first | decide | assumption | (simp only [gcnt_4, gcnt_1, gcnt_2, gcnt_3, gcnt_12, gcnt_13, gcnt_16]; omega)) rfl rfl (Nat.le_of_ble_eq_true rfl) dX8_reads_218 ?_
                refine r_if_eq hR 229 dX8_reads_221 (by decide) (fun c221 => ?_) (fun c221 => ?_)
                · try simp (disch := omega) only [nI_ltI, nI_leI, nI_eq, bI_0, Decidable.not_not, lc_lt, lc_gt, lc_ge, lc_le, lc_eq, i64_toInt] at c221
                  try simp (disch := omega) only [cv_lt, cv_le, cv_eq, nI_toInt, cv_0] at c221
                  first
                  | omega
                  | refine r_bipush hR (nI 23) (by decide) dX8_reads_229 ?_
                    first
                    | (rw [if_pos (by omega)] at J231; exact J231)
                    | (rw [if_neg (by omega)] at J231; exact J231)
                · try simp (disch := omega) only [nI_ltI, nI_leI, nI_eq, bI_0, Decidable.not_not, lc_lt, lc_gt, lc_ge, lc_le, lc_eq, i64_toInt] at c221
                  try simp (disch := omega) only [cv_lt, cv_le, cv_eq, nI_toInt, cv_0] at c221
                  first
                  | omega
                  | refine r_bipush hR (nI 21) (by decide) dX8_reads_224 ?_
                    refine r_goto hR 231 dX8_reads_226 (by decide) ?_
                    first
                    | (rw [if_pos (by omega)] at J231; exact J231)
                    | (rw [if_neg (by omega)] at J231; exact J231)
            · try simp (disch := omega) only [nI_ltI, nI_leI, nI_eq, bI_0, Decidable.not_not, lc_lt, lc_gt, lc_ge, lc_le, lc_eq, i64_toInt] at c127
              try simp (disch := omega) only [cv_lt, cv_le, cv_eq, nI_toInt, cv_0] at c127
              first
              | omega
              | have hdi : cDi (T b) = true := by rw [cDi_i]; omega
                have Ln : ∀ (j i : Nat) (e : Nat), i + j = l - b → run cDi T l (b + i) = e → run cDi T l b = e → P 130 [some (.ref (ad G 15 0))] [] (X8 M b (b + i) (valP T b i)) := by
                  intro j
                  induction j with
                  | zero =>
                    intro i e hij hq he
                    have hvl := valP_le hT b i
                    have hTi := hT (b + i)
                    refine r_aload0 hR dX8_reads_130 ?_
                    refine r_aload0 hR dX8_reads_131 ?_
                    refine r_get hR (by first | decide | assumption | (simp only [gcnt_4, gcnt_1, gcnt_2, gcnt_3, gcnt_12, gcnt_13, gcnt_16]; omega)) fl_X8_155 rfl rfl dX8_reads_132 ?_
                    try simp only [s11, X_11, X_12, X_10]
                    refine r_bipush hR (nI 48) (by decide) dX8_reads_135 ?_
                    refine r_bipush hR (nI 57) (by decide) dX8_reads_137 ?_
                    refine r_cv3v hR kv_X8_161 (by decide) (t_X8_isByte (X_tap h) (by omega) (by decide) (by decide)) (by first | decide | assumption | (simp only [gcnt_4, gcnt_1, gcnt_2, gcnt_3, gcnt_12, gcnt_13, gcnt_16]; omega)) rfl rfl (Nat.le_of_ble_eq_true rfl) dX8_reads_139 ?_
                    refine r_if_eq hR 199 dX8_reads_142 (by decide) (fun c142 => ?_) (fun c142 => ?_)
                    · try simp (disch := omega) only [nI_ltI, nI_leI, nI_eq, bI_0, Decidable.not_not, lc_lt, lc_gt, lc_ge, lc_le, lc_eq, i64_toInt] at c142
                      try simp (disch := omega) only [cv_lt, cv_le, cv_eq, nI_toInt, cv_0] at c142
                      first
                      | omega
                      | have e1 : b + i = e := by rw [← hq, run_no (by rw [cDi_i]; omega)]
                        
                        refine r_aload0 hR dX8_reads_199 ?_
                        refine r_bipush hR (nI 20) (by decide) dX8_reads_200 ?_
                        refine r_puti hR (by first | decide | assumption | (simp only [gcnt_4, gcnt_1, gcnt_2, gcnt_3, gcnt_12, gcnt_13, gcnt_16]; omega)) fp_X8_168 rfl rfl (Nat.le_of_ble_eq_true rfl) rfl rfl dX8_reads_202 ?_
                        refine r_goto hR 244 dX8_reads_205 (by decide) ?_
                        refine r_vret hR dX8_reads_244 ?_
                        refine ⟨rfl, ?_⟩
                        rw [eL]
                        unfold lexB
                        rw [if_neg hbl, if_neg hle, if_pos hdi, he, ← e1, Nat.add_sub_cancel_left]
                        rfl
                    · try simp (disch := omega) only [nI_ltI, nI_leI, nI_eq, bI_0, Decidable.not_not, lc_lt, lc_gt, lc_ge, lc_le, lc_eq, i64_toInt] at c142
                      try simp (disch := omega) only [cv_lt, cv_le, cv_eq, nI_toInt, cv_0] at c142
                      first
                      | omega
                      | skip
                        refine r_aload0 hR dX8_reads_145 ?_
                        refine r_aload0 hR dX8_reads_146 ?_
                        refine r_get hR (by first | decide | assumption | (simp only [gcnt_4, gcnt_1, gcnt_2, gcnt_3, gcnt_12, gcnt_13, gcnt_16]; omega)) fl_X8_165 rfl rfl dX8_reads_147 ?_
                        try simp only [s11, X_11, X_12, X_10]
                        refine r_sipush hR (nI 999) (by decide) dX8_reads_150 ?_
                        refine r_icmp_le hR 163 dX8_reads_153 (by decide) (fun c153 => ?_) (fun c153 => ?_)
                        · try simp (disch := omega) only [nI_ltI, nI_leI, nI_eq, bI_0, Decidable.not_not, lc_lt, lc_gt, lc_ge, lc_le, lc_eq, i64_toInt] at c153
                          try simp (disch := omega) only [cv_lt, cv_le, cv_eq, nI_toInt, cv_0] at c153
                          first
                          | omega
                          | refine r_bipush hR (nI 10) (by decide) dX8_reads_163 ?_
                            refine r_aload0 hR dX8_reads_165 ?_
                            refine r_get hR (by first | decide | assumption | (simp only [gcnt_4, gcnt_1, gcnt_2, gcnt_3, gcnt_12, gcnt_13, gcnt_16]; omega)) fl_X8_165 rfl rfl dX8_reads_166 ?_
                            try simp only [s11, X_11, X_12, X_10]
                            refine r_imul hR dX8_reads_169 ?_
                            try rw [pk_mul]
                            refine r_aload0 hR dX8_reads_170 ?_
                            refine r_get hR (by first | decide | assumption | (simp only [gcnt_4, gcnt_1, gcnt_2, gcnt_3, gcnt_12, gcnt_13, gcnt_16]; omega)) fl_X8_28 rfl rfl dX8_reads_171 ?_
                            try simp only [s11, X_11, X_12, X_10]
                            refine r_aload0 hR dX8_reads_174 ?_
                            refine r_get hR (by first | decide | assumption | (simp only [gcnt_4, gcnt_1, gcnt_2, gcnt_3, gcnt_12, gcnt_13, gcnt_16]; omega)) fl_X8_155 rfl rfl dX8_reads_175 ?_
                            try simp only [s11, X_11, X_12, X_10]
                            refine r_iald hR (by first | decide | assumption | (simp only [gcnt_4, gcnt_1, gcnt_2, gcnt_3, gcnt_12, gcnt_13, gcnt_16]; omega)) rfl rfl (by omega) (by decide) dX8_reads_178 ?_
                            try simp only [s11, X_11, X_12, X_10]
                            rw [(X_tap h).2.1 (b + i) (by omega)]
                            refine r_iadd hR dX8_reads_179 ?_
                            try rw [nI_add]
                            refine r_bipush hR (nI 48) (by decide) dX8_reads_180 ?_
                            refine r_isubN hR (by omega) dX8_reads_182 ?_
                            omega
                        · try simp (disch := omega) only [nI_ltI, nI_leI, nI_eq, bI_0, Decidable.not_not, lc_lt, lc_gt, lc_ge, lc_le, lc_eq, i64_toInt] at c153
                          try simp (disch := omega) only [cv_lt, cv_le, cv_eq, nI_toInt, cv_0] at c153
                          first
                          | omega
                          | refine r_aload0 hR dX8_reads_156 ?_
                            refine r_get hR (by first | decide | assumption | (simp only [gcnt_4, gcnt_1, gcnt_2, gcnt_3, gcnt_12, gcnt_13, gcnt_16]; omega)) fl_X8_165 rfl rfl dX8_reads_157 ?_
                            try simp only [s11, X_11, X_12, X_10]
                            refine r_goto hR 183 dX8_reads_160 (by decide) ?_
                            omega
                  | succ j ih =>
                    intro i e hij hq he
                    have hvl := valP_le hT b i
                    have hTi := hT (b + i)
                    refine r_aload0 hR dX8_reads_130 ?_
                    refine r_aload0 hR dX8_reads_131 ?_
                    refine r_get hR (by first | decide | assumption | (simp only [gcnt_4, gcnt_1, gcnt_2, gcnt_3, gcnt_12, gcnt_13, gcnt_16]; omega)) fl_X8_155 rfl rfl dX8_reads_132 ?_
                    try simp only [s11, X_11, X_12, X_10]
                    refine r_bipush hR (nI 48) (by decide) dX8_reads_135 ?_
                    refine r_bipush hR (nI 57) (by decide) dX8_reads_137 ?_
                    refine r_cv3v hR kv_X8_161 (by decide) (t_X8_isByte (X_tap h) (by omega) (by decide) (by decide)) (by first | decide | assumption | (simp only [gcnt_4, gcnt_1, gcnt_2, gcnt_3, gcnt_12, gcnt_13, gcnt_16]; omega)) rfl rfl (Nat.le_of_ble_eq_true rfl) dX8_reads_139 ?_
                    refine r_if_eq hR 199 dX8_reads_142 (by decide) (fun c142 => ?_) (fun c142 => ?_)
                    · try simp (disch := omega) only [nI_ltI, nI_leI, nI_eq, bI_0, Decidable.not_not, lc_lt, lc_gt, lc_ge, lc_le, lc_eq, i64_toInt] at c142
                      try simp (disch := omega) only [cv_lt, cv_le, cv_eq, nI_toInt, cv_0] at c142
                      first
                      | omega
                      | have e1 : b + i = e := by rw [← hq, run_no (by rw [cDi_i]; omega)]
                        
                        refine r_aload0 hR dX8_reads_199 ?_
                        refine r_bipush hR (nI 20) (by decide) dX8_reads_200 ?_
                        refine r_puti hR (by first | decide | assumption | (simp only [gcnt_4, gcnt_1, gcnt_2, gcnt_3, gcnt_12, gcnt_13, gcnt_16]; omega)) fp_X8_168 rfl rfl (Nat.le_of_ble_eq_true rfl) rfl rfl dX8_reads_202 ?_
                        refine r_goto hR 244 dX8_reads_205 (by decide) ?_
                        refine r_vret hR dX8_reads_244 ?_
                        refine ⟨rfl, ?_⟩
                        rw [eL]
                        unfold lexB
                        rw [if_neg hbl, if_neg hle, if_pos hdi, he, ← e1, Nat.add_sub_cancel_left]
                        rfl
                    · try simp (disch := omega) only [nI_ltI, nI_leI, nI_eq, bI_0, Decidable.not_not, lc_lt, lc_gt, lc_ge, lc_le, lc_eq, i64_toInt] at c142
                      try simp (disch := omega) only [cv_lt, cv_le, cv_eq, nI_toInt, cv_0] at c142
                      first
                      | omega
                      | have J183 : P 183 [some (.ref (ad G 15 0))] [.int (nI (valP T b (i + 1))), .ref (ad G 15 0)] (X8 M b (b + i) (valP T b i)) := by
                          refine r_puti hR (by first | decide | assumption | (simp only [gcnt_4, gcnt_1, gcnt_2, gcnt_3, gcnt_12, gcnt_13, gcnt_16]; omega)) fp_X8_165 rfl rfl (Nat.le_of_ble_eq_true rfl) rfl rfl dX8_reads_183 ?_
                          rw [X_v]
                          refine r_aload0 hR dX8_reads_186 ?_
                          refine r_dup hR rfl dX8_reads_187 ?_
                          refine r_get hR (by first | decide | assumption | (simp only [gcnt_4, gcnt_1, gcnt_2, gcnt_3, gcnt_12, gcnt_13, gcnt_16]; omega)) fl_X8_155 rfl rfl dX8_reads_188 ?_
                          try simp only [s11, X_11, X_12, X_10]
                          refine r_iconst hR (nI 1) (by decide) dX8_reads_191 ?_
                          refine r_iadd hR dX8_reads_192 ?_
                          try rw [nI_add]
                          refine r_puti hR (by first | decide | assumption | (simp only [gcnt_4, gcnt_1, gcnt_2, gcnt_3, gcnt_12, gcnt_13, gcnt_16]; omega)) fp_X8_155 rfl rfl (Nat.le_of_ble_eq_true rfl) rfl rfl dX8_reads_193 ?_
                          rw [X_at]
                          refine r_goto hR 130 dX8_reads_196 (by decide) ?_
                          exact ih (i + 1) e (by omega) (by rw [← hq]; exact (run_st (p := b + i) (by omega) (by rw [cDi_i]; omega)).symm) he
                        refine r_aload0 hR dX8_reads_145 ?_
                        refine r_aload0 hR dX8_reads_146 ?_
                        refine r_get hR (by first | decide | assumption | (simp only [gcnt_4, gcnt_1, gcnt_2, gcnt_3, gcnt_12, gcnt_13, gcnt_16]; omega)) fl_X8_165 rfl rfl dX8_reads_147 ?_
                        try simp only [s11, X_11, X_12, X_10]
                        refine r_sipush hR (nI 999) (by decide) dX8_reads_150 ?_
                        refine r_icmp_le hR 163 dX8_reads_153 (by decide) (fun c153 => ?_) (fun c153 => ?_)
                        · try simp (disch := omega) only [nI_ltI, nI_leI, nI_eq, bI_0, Decidable.not_not, lc_lt, lc_gt, lc_ge, lc_le, lc_eq, i64_toInt] at c153
                          try simp (disch := omega) only [cv_lt, cv_le, cv_eq, nI_toInt, cv_0] at c153
                          first
                          | omega
                          | refine r_bipush hR (nI 10) (by decide) dX8_reads_163 ?_
                            refine r_aload0 hR dX8_reads_165 ?_
                            refine r_get hR (by first | decide | assumption | (simp only [gcnt_4, gcnt_1, gcnt_2, gcnt_3, gcnt_12, gcnt_13, gcnt_16]; omega)) fl_X8_165 rfl rfl dX8_reads_166 ?_
                            try simp only [s11, X_11, X_12, X_10]
                            refine r_imul hR dX8_reads_169 ?_
                            try rw [pk_mul]
                            refine r_aload0 hR dX8_reads_170 ?_
                            refine r_get hR (by first | decide | assumption | (simp only [gcnt_4, gcnt_1, gcnt_2, gcnt_3, gcnt_12, gcnt_13, gcnt_16]; omega)) fl_X8_28 rfl rfl dX8_reads_171 ?_
                            try simp only [s11, X_11, X_12, X_10]
                            refine r_aload0 hR dX8_reads_174 ?_
                            refine r_get hR (by first | decide | assumption | (simp only [gcnt_4, gcnt_1, gcnt_2, gcnt_3, gcnt_12, gcnt_13, gcnt_16]; omega)) fl_X8_155 rfl rfl dX8_reads_175 ?_
                            try simp only [s11, X_11, X_12, X_10]
                            refine r_iald hR (by first | decide | assumption | (simp only [gcnt_4, gcnt_1, gcnt_2, gcnt_3, gcnt_12, gcnt_13, gcnt_16]; omega)) rfl rfl (by omega) (by decide) dX8_reads_178 ?_
                            try simp only [s11, X_11, X_12, X_10]
                            rw [(X_tap h).2.1 (b + i) (by omega)]
                            refine r_iadd hR dX8_reads_179 ?_
                            try rw [nI_add]
                            refine r_bipush hR (nI 48) (by decide) dX8_reads_180 ?_
                            refine r_isubN hR (by omega) dX8_reads_182 ?_
                            refine r_nm (nI (valP T b (i + 1))) ?_ J183
                            have es : valP T b (i + 1) = if 999 < (valP T b i) then (valP T b i) else 10 * (valP T b i) + T (b + i) - 48 := rfl
                            first
                            | rw [es, if_pos (by omega)]
                            | rw [es, if_neg (by omega)]
                        · try simp (disch := omega) only [nI_ltI, nI_leI, nI_eq, bI_0, Decidable.not_not, lc_lt, lc_gt, lc_ge, lc_le, lc_eq, i64_toInt] at c153
                          try simp (disch := omega) only [cv_lt, cv_le, cv_eq, nI_toInt, cv_0] at c153
                          first
                          | omega
                          | refine r_aload0 hR dX8_reads_156 ?_
                            refine r_get hR (by first | decide | assumption | (simp only [gcnt_4, gcnt_1, gcnt_2, gcnt_3, gcnt_12, gcnt_13, gcnt_16]; omega)) fl_X8_165 rfl rfl dX8_reads_157 ?_
                            try simp only [s11, X_11, X_12, X_10]
                            refine r_goto hR 183 dX8_reads_160 (by decide) ?_
                            refine r_nm (nI (valP T b (i + 1))) ?_ J183
                            have es : valP T b (i + 1) = if 999 < (valP T b i) then (valP T b i) else 10 * (valP T b i) + T (b + i) - 48 := rfl
                            first
                            | rw [es, if_pos (by omega)]
                            | rw [es, if_neg (by omega)]
                exact Ln (l - b) 0 _ (by omega) rfl rfl
        · try simp (disch := omega) only [nI_ltI, nI_leI, nI_eq, bI_0, Decidable.not_not, lc_lt, lc_gt, lc_ge, lc_le, lc_eq, i64_toInt] at c73
          try simp (disch := omega) only [cv_lt, cv_le, cv_eq, nI_toInt, cv_0] at c73
          first
          | omega
          | have hle : cLe (T b) = true := by rw [cLe_i]; omega
            have Lw : ∀ (j q : Nat) (e : Nat), q + j = l → b ≤ q → run cLe T l q = e → run cLe T l b = e → P 76 [some (.ref (ad G 15 0))] [] (X8 M b q 0) := by
              intro j
              induction j with
              | zero =>
                intro q e hij hbq hq he
                refine r_aload0 hR dX8_reads_76 ?_
                refine r_aload0 hR dX8_reads_77 ?_
                refine r_get hR (by first | decide | assumption | (simp only [gcnt_4, gcnt_1, gcnt_2, gcnt_3, gcnt_12, gcnt_13, gcnt_16]; omega)) fl_X8_155 rfl rfl dX8_reads_78 ?_
                try simp only [s11, X_11, X_12, X_10]
                refine r_bipush hR (nI 97) (by decide) dX8_reads_81 ?_
                refine r_bipush hR (nI 122) (by decide) dX8_reads_83 ?_
                refine r_cv3v hR kv_X8_161 (by decide) (t_X8_isByte (X_tap h) (by omega) (by decide) (by decide)) (by first | decide | assumption | (simp only [gcnt_4, gcnt_1, gcnt_2, gcnt_3, gcnt_12, gcnt_13, gcnt_16]; omega)) rfl rfl (Nat.le_of_ble_eq_true rfl) dX8_reads_85 ?_
                refine r_if_eq hR 104 dX8_reads_88 (by decide) (fun c88 => ?_) (fun c88 => ?_)
                · try simp (disch := omega) only [nI_ltI, nI_leI, nI_eq, bI_0, Decidable.not_not, lc_lt, lc_gt, lc_ge, lc_le, lc_eq, i64_toInt] at c88
                  try simp (disch := omega) only [cv_lt, cv_le, cv_eq, nI_toInt, cv_0] at c88
                  first
                  | omega
                  | have e1 : q = e := by rw [← hq, run_no (by rw [cLe_i]; omega)]
                    subst e1
                    
                    refine r_aload0 hR dX8_reads_104 ?_
                    refine r_aload0 hR dX8_reads_105 ?_
                    refine r_cv0v hR kv_X8_171 (by decide) (t_X8_wordHere (X_tap h) (X_10 _ _ _ _) (X_11 _ _ _ _) hbq (by omega)) (by first | decide | assumption | (simp only [gcnt_4, gcnt_1, gcnt_2, gcnt_3, gcnt_12, gcnt_13, gcnt_16]; omega)) rfl rfl (Nat.le_of_ble_eq_true rfl) dX8_reads_106 ?_
                    refine r_puti hR (by first | decide | assumption | (simp only [gcnt_4, gcnt_1, gcnt_2, gcnt_3, gcnt_12, gcnt_13, gcnt_16]; omega)) fp_X8_168 rfl rfl (Nat.le_of_ble_eq_true rfl) rfl rfl dX8_reads_109 ?_
                    refine r_goto hR 244 dX8_reads_112 (by decide) ?_
                    refine r_vret hR dX8_reads_244 ?_
                    refine ⟨rfl, ?_⟩
                    rw [eL]
                    unfold lexB
                    rw [if_neg hbl, if_pos hle, he]
                    rfl
                · try simp (disch := omega) only [nI_ltI, nI_leI, nI_eq, bI_0, Decidable.not_not, lc_lt, lc_gt, lc_ge, lc_le, lc_eq, i64_toInt] at c88
                  try simp (disch := omega) only [cv_lt, cv_le, cv_eq, nI_toInt, cv_0] at c88
                  first
                  | omega
                  | refine r_aload0 hR dX8_reads_91 ?_
                    refine r_dup hR rfl dX8_reads_92 ?_
                    refine r_get hR (by first | decide | assumption | (simp only [gcnt_4, gcnt_1, gcnt_2, gcnt_3, gcnt_12, gcnt_13, gcnt_16]; omega)) fl_X8_155 rfl rfl dX8_reads_93 ?_
                    try simp only [s11, X_11, X_12, X_10]
                    refine r_iconst hR (nI 1) (by decide) dX8_reads_96 ?_
                    refine r_iadd hR dX8_reads_97 ?_
                    try rw [nI_add]
                    refine r_puti hR (by first | decide | assumption | (simp only [gcnt_4, gcnt_1, gcnt_2, gcnt_3, gcnt_12, gcnt_13, gcnt_16]; omega)) fp_X8_155 rfl rfl (Nat.le_of_ble_eq_true rfl) rfl rfl dX8_reads_98 ?_
                    rw [X_at]
                    refine r_goto hR 76 dX8_reads_101 (by decide) ?_
                    omega
              | succ j ih =>
                intro q e hij hbq hq he
                refine r_aload0 hR dX8_reads_76 ?_
                refine r_aload0 hR dX8_reads_77 ?_
                refine r_get hR (by first | decide | assumption | (simp only [gcnt_4, gcnt_1, gcnt_2, gcnt_3, gcnt_12, gcnt_13, gcnt_16]; omega)) fl_X8_155 rfl rfl dX8_reads_78 ?_
                try simp only [s11, X_11, X_12, X_10]
                refine r_bipush hR (nI 97) (by decide) dX8_reads_81 ?_
                refine r_bipush hR (nI 122) (by decide) dX8_reads_83 ?_
                refine r_cv3v hR kv_X8_161 (by decide) (t_X8_isByte (X_tap h) (by omega) (by decide) (by decide)) (by first | decide | assumption | (simp only [gcnt_4, gcnt_1, gcnt_2, gcnt_3, gcnt_12, gcnt_13, gcnt_16]; omega)) rfl rfl (Nat.le_of_ble_eq_true rfl) dX8_reads_85 ?_
                refine r_if_eq hR 104 dX8_reads_88 (by decide) (fun c88 => ?_) (fun c88 => ?_)
                · try simp (disch := omega) only [nI_ltI, nI_leI, nI_eq, bI_0, Decidable.not_not, lc_lt, lc_gt, lc_ge, lc_le, lc_eq, i64_toInt] at c88
                  try simp (disch := omega) only [cv_lt, cv_le, cv_eq, nI_toInt, cv_0] at c88
                  first
                  | omega
                  | have e1 : q = e := by rw [← hq, run_no (by rw [cLe_i]; omega)]
                    subst e1
                    
                    refine r_aload0 hR dX8_reads_104 ?_
                    refine r_aload0 hR dX8_reads_105 ?_
                    refine r_cv0v hR kv_X8_171 (by decide) (t_X8_wordHere (X_tap h) (X_10 _ _ _ _) (X_11 _ _ _ _) hbq (by omega)) (by first | decide | assumption | (simp only [gcnt_4, gcnt_1, gcnt_2, gcnt_3, gcnt_12, gcnt_13, gcnt_16]; omega)) rfl rfl (Nat.le_of_ble_eq_true rfl) dX8_reads_106 ?_
                    refine r_puti hR (by first | decide | assumption | (simp only [gcnt_4, gcnt_1, gcnt_2, gcnt_3, gcnt_12, gcnt_13, gcnt_16]; omega)) fp_X8_168 rfl rfl (Nat.le_of_ble_eq_true rfl) rfl rfl dX8_reads_109 ?_
                    refine r_goto hR 244 dX8_reads_112 (by decide) ?_
                    refine r_vret hR dX8_reads_244 ?_
                    refine ⟨rfl, ?_⟩
                    rw [eL]
                    unfold lexB
                    rw [if_neg hbl, if_pos hle, he]
                    rfl
                · try simp (disch := omega) only [nI_ltI, nI_leI, nI_eq, bI_0, Decidable.not_not, lc_lt, lc_gt, lc_ge, lc_le, lc_eq, i64_toInt] at c88
                  try simp (disch := omega) only [cv_lt, cv_le, cv_eq, nI_toInt, cv_0] at c88
                  first
                  | omega
                  | refine r_aload0 hR dX8_reads_91 ?_
                    refine r_dup hR rfl dX8_reads_92 ?_
                    refine r_get hR (by first | decide | assumption | (simp only [gcnt_4, gcnt_1, gcnt_2, gcnt_3, gcnt_12, gcnt_13, gcnt_16]; omega)) fl_X8_155 rfl rfl dX8_reads_93 ?_
                    try simp only [s11, X_11, X_12, X_10]
                    refine r_iconst hR (nI 1) (by decide) dX8_reads_96 ?_
                    refine r_iadd hR dX8_reads_97 ?_
                    try rw [nI_add]
                    refine r_puti hR (by first | decide | assumption | (simp only [gcnt_4, gcnt_1, gcnt_2, gcnt_3, gcnt_12, gcnt_13, gcnt_16]; omega)) fp_X8_155 rfl rfl (Nat.le_of_ble_eq_true rfl) rfl rfl dX8_reads_98 ?_
                    rw [X_at]
                    refine r_goto hR 76 dX8_reads_101 (by decide) ?_
                    exact ih (q + 1) e (by omega) (by omega) (by rw [← hq]; exact (run_st (by omega) (by rw [cLe_i]; omega)).symm) he
            exact Lw (l - b) b _ (by omega) (Nat.le_refl b) rfl rfl
    · try simp (disch := omega) only [nI_ltI, nI_leI, nI_eq, bI_0, Decidable.not_not, lc_lt, lc_gt, lc_ge, lc_le, lc_eq, i64_toInt] at c49
      try simp (disch := omega) only [cv_lt, cv_le, cv_eq, nI_toInt, cv_0] at c49
      first
      | omega
      | refine r_aload0 hR dX8_reads_52 ?_
        refine r_bipush hR (nI 22) (by decide) dX8_reads_53 ?_
        refine r_puti hR (by first | decide | assumption | (simp only [gcnt_4, gcnt_1, gcnt_2, gcnt_3, gcnt_12, gcnt_13, gcnt_16]; omega)) fp_X8_168 rfl rfl (Nat.le_of_ble_eq_true rfl) rfl rfl dX8_reads_55 ?_
        refine r_goto hR 244 dX8_reads_58 (by decide) ?_
        refine r_vret hR dX8_reads_244 ?_
        refine ⟨rfl, ?_⟩
        rw [eL]
        unfold lexB
        rw [if_pos (by omega)]
        rfl
  have L0 : ∀ (j q : Nat), q + j = l → run cSp T l q = b → P 0 [some (.ref (ad G 15 0))] [] (seti M 15 0 11 (nI q)) := by
    intro j
    induction j with
    | zero =>
      intro q  hij hq
      refine r_aload0 hR dX8_reads_0 ?_
      refine r_aload0 hR dX8_reads_1 ?_
      refine r_get hR (by first | decide | assumption | (simp only [gcnt_4, gcnt_1, gcnt_2, gcnt_3, gcnt_12, gcnt_13, gcnt_16]; omega)) fl_X8_155 rfl rfl dX8_reads_2 ?_
      try simp only [s11, X_11, X_12, X_10]
      refine r_bipush hR (nI 32) (by decide) dX8_reads_5 ?_
      refine r_bipush hR (nI 32) (by decide) dX8_reads_7 ?_
      refine r_cv3v hR kv_X8_161 (by decide) (t_X8_isByte (tap_s h (by omega)) (by omega) (by decide) (by decide)) (by first | decide | assumption | (simp only [gcnt_4, gcnt_1, gcnt_2, gcnt_3, gcnt_12, gcnt_13, gcnt_16]; omega)) rfl rfl (Nat.le_of_ble_eq_true rfl) dX8_reads_9 ?_
      refine r_if_eq hR 28 dX8_reads_12 (by decide) (fun c12 => ?_) (fun c12 => ?_)
      · try simp (disch := omega) only [nI_ltI, nI_leI, nI_eq, bI_0, Decidable.not_not, lc_lt, lc_gt, lc_ge, lc_le, lc_eq, i64_toInt] at c12
        try simp (disch := omega) only [cv_lt, cv_le, cv_eq, nI_toInt, cv_0] at c12
        first
        | omega
        | have e1 : q = b := by rw [← hq, run_no (by rw [cSp_i]; omega)]
          rw [e1]
          exact J28
      · try simp (disch := omega) only [nI_ltI, nI_leI, nI_eq, bI_0, Decidable.not_not, lc_lt, lc_gt, lc_ge, lc_le, lc_eq, i64_toInt] at c12
        try simp (disch := omega) only [cv_lt, cv_le, cv_eq, nI_toInt, cv_0] at c12
        first
        | omega
        | refine r_aload0 hR dX8_reads_15 ?_
          refine r_dup hR rfl dX8_reads_16 ?_
          refine r_get hR (by first | decide | assumption | (simp only [gcnt_4, gcnt_1, gcnt_2, gcnt_3, gcnt_12, gcnt_13, gcnt_16]; omega)) fl_X8_155 rfl rfl dX8_reads_17 ?_
          try simp only [s11, X_11, X_12, X_10]
          refine r_iconst hR (nI 1) (by decide) dX8_reads_20 ?_
          refine r_iadd hR dX8_reads_21 ?_
          try rw [nI_add]
          refine r_puti hR (by first | decide | assumption | (simp only [gcnt_4, gcnt_1, gcnt_2, gcnt_3, gcnt_12, gcnt_13, gcnt_16]; omega)) fp_X8_155 rfl rfl (Nat.le_of_ble_eq_true rfl) rfl rfl dX8_reads_22 ?_
          rw [seti_seti]
          refine r_goto hR 0 dX8_reads_25 (by decide) ?_
          omega
    | succ j ih =>
      intro q  hij hq
      refine r_aload0 hR dX8_reads_0 ?_
      refine r_aload0 hR dX8_reads_1 ?_
      refine r_get hR (by first | decide | assumption | (simp only [gcnt_4, gcnt_1, gcnt_2, gcnt_3, gcnt_12, gcnt_13, gcnt_16]; omega)) fl_X8_155 rfl rfl dX8_reads_2 ?_
      try simp only [s11, X_11, X_12, X_10]
      refine r_bipush hR (nI 32) (by decide) dX8_reads_5 ?_
      refine r_bipush hR (nI 32) (by decide) dX8_reads_7 ?_
      refine r_cv3v hR kv_X8_161 (by decide) (t_X8_isByte (tap_s h (by omega)) (by omega) (by decide) (by decide)) (by first | decide | assumption | (simp only [gcnt_4, gcnt_1, gcnt_2, gcnt_3, gcnt_12, gcnt_13, gcnt_16]; omega)) rfl rfl (Nat.le_of_ble_eq_true rfl) dX8_reads_9 ?_
      refine r_if_eq hR 28 dX8_reads_12 (by decide) (fun c12 => ?_) (fun c12 => ?_)
      · try simp (disch := omega) only [nI_ltI, nI_leI, nI_eq, bI_0, Decidable.not_not, lc_lt, lc_gt, lc_ge, lc_le, lc_eq, i64_toInt] at c12
        try simp (disch := omega) only [cv_lt, cv_le, cv_eq, nI_toInt, cv_0] at c12
        first
        | omega
        | have e1 : q = b := by rw [← hq, run_no (by rw [cSp_i]; omega)]
          rw [e1]
          exact J28
      · try simp (disch := omega) only [nI_ltI, nI_leI, nI_eq, bI_0, Decidable.not_not, lc_lt, lc_gt, lc_ge, lc_le, lc_eq, i64_toInt] at c12
        try simp (disch := omega) only [cv_lt, cv_le, cv_eq, nI_toInt, cv_0] at c12
        first
        | omega
        | refine r_aload0 hR dX8_reads_15 ?_
          refine r_dup hR rfl dX8_reads_16 ?_
          refine r_get hR (by first | decide | assumption | (simp only [gcnt_4, gcnt_1, gcnt_2, gcnt_3, gcnt_12, gcnt_13, gcnt_16]; omega)) fl_X8_155 rfl rfl dX8_reads_17 ?_
          try simp only [s11, X_11, X_12, X_10]
          refine r_iconst hR (nI 1) (by decide) dX8_reads_20 ?_
          refine r_iadd hR dX8_reads_21 ?_
          try rw [nI_add]
          refine r_puti hR (by first | decide | assumption | (simp only [gcnt_4, gcnt_1, gcnt_2, gcnt_3, gcnt_12, gcnt_13, gcnt_16]; omega)) fp_X8_155 rfl rfl (Nat.le_of_ble_eq_true rfl) rfl rfl dX8_reads_22 ?_
          rw [seti_seti]
          refine r_goto hR 0 dX8_reads_25 (by decide) ?_
          exact ih (q + 1) (by omega) (by rw [← hq]; exact (run_st (by omega) (by rw [cSp_i]; omega)).symm)
  refine r_mem (seti_id hp).symm ?_
  exact L0 (l - p) p (by omega) hb


