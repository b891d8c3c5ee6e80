theorem ob_X5_3 : Cond.methodLink RX5 3 Lib.objectInit ∈ GT := GT_t 37 (by decide +kernel) rfl
abbrev e_X5 (G : gG) (n : Nat) : List va_E := [.inr (5, [.int 0, .int 0, .int 0, .int 0])]
set_option maxHeartbeats 4000000 in
set_option maxRecDepth 100000 in
theorem c_X5_init {G : gG} {K0 : List va_E} {n : Nat} (hn : K0.length = n) : Ck G mX5_init 1 0 0 [.ref (gb G + n)] (K0 ++ [.inr (5, [.int 0, .int 0, .int 0, .int 0])]) (K0 ++ e_X5 G n) := by
  refine Ck.of hn (by decide +kernel) rfl rfl (k := 0) (ls0 := [some (.ref (gb G + n))]) rfl rfl ?_
  intro P hR hret
  refine k_aload hR 0 rfl rfl dX5_init_0 ?_
  refine k_obj hR ob_X5_3 (by decide) (Nat.le_of_ble_eq_true rfl) dX5_init_1 ?_
  exact hret _ _ dX5_init_4
theorem ob_X0_1 : Cond.methodLink RX0 1 Lib.objectInit ∈ GT := GT_t 108 (by decide +kernel) rfl
abbrev e_X0 (G : gG) (n : Nat) : List va_E := [.inr (0, [.int 0, .int 0])]
set_option maxHeartbeats 4000000 in
set_option maxRecDepth 100000 in
theorem c_X0_init {G : gG} {K0 : List va_E} {n : Nat} (hn : K0.length = n) : Ck G mX0_init 1 0 0 [.ref (gb G + n)] (K0 ++ [.inr (0, [.int 0, .int 0])]) (K0 ++ e_X0 G n) := by
  refine Ck.of hn (by decide +kernel) rfl rfl (k := 0) (ls0 := [some (.ref (gb G + n))]) rfl rfl ?_
  intro P hR hret
  refine k_aload hR 0 rfl rfl dX0_init_0 ?_
  refine k_obj hR ob_X0_1 (by decide) (Nat.le_of_ble_eq_true rfl) dX0_init_1 ?_
  exact hret _ _ dX0_init_4
theorem ob_X2_3 : Cond.methodLink RX2 3 Lib.objectInit ∈ GT := GT_t 158 (by decide +kernel) rfl
theorem ff_X2_18 : FFd RX2 18 2 2 (.array .long) := ⟨TX2, 3, tyX2, rfl, by decide, GT_t 163 (by decide +kernel) rfl, inGX2, tyX2_ok, nmX2, rfl, rfl, rfl⟩
abbrev e_X2 (G : gG) (n : Nat) : List va_E := [.inr (2, [.int (nI 0), .int (nI 0), .ref (gb G + (n + 1))]), .inl (gcL G, 40, .inr (.inl (fun _ => 0)))]
set_option maxHeartbeats 4000000 in
set_option maxRecDepth 100000 in
theorem c_X2_init {G : gG} {K0 : List va_E} {n : Nat} (hn : K0.length = n) : Ck G mX2_init 1 1 40 [.ref (gb G + n)] (K0 ++ [.inr (2, [.int 0, .int 0, .null])]) (K0 ++ e_X2 G n) := by
  refine Ck.of hn (by decide +kernel) rfl rfl (k := 0) (ls0 := [some (.ref (gb G + n))]) rfl rfl ?_
  intro P hR hret
  refine k_aload hR 0 rfl rfl dX2_init_0 ?_
  refine k_obj hR ob_X2_3 (by decide) (Nat.le_of_ble_eq_true rfl) dX2_init_1 ?_
  refine k_aload hR 0 rfl rfl dX2_init_4 ?_
  refine k_iconst hR (nI 0) (by decide) dX2_init_5 ?_
  refine k_put hR 0 [.inr (2, [.int (nI 0), .int 0, .null])] rfl fp_X2_9 rfl rfl (Nat.le_of_ble_eq_true rfl) rfl dX2_init_6 ?_
  refine k_aload hR 0 rfl rfl dX2_init_9 ?_
  refine k_iconst hR (nI 0) (by decide) dX2_init_10 ?_
  refine k_put hR 0 [.inr (2, [.int (nI 0), .int (nI 0), .null])] rfl fp_X2_15 rfl rfl (Nat.le_of_ble_eq_true rfl) rfl dX2_init_11 ?_
  refine k_aload hR 0 rfl rfl dX2_init_14 ?_
  refine k_bipush hR (nI 40) (by decide) dX2_init_15 ?_
  refine k_newl hR 1 rfl rfl (by decide) (by decide) (by decide) dX2_init_17 ?_
  refine k_putF hR 0 [.inr (2, [.int (nI 0), .int (nI 0), .ref (gb G + (n + 1))]), .inl (gcL G, 40, .inr (.inl (fun _ => 0)))] rfl ff_X2_18 rfl rfl (Nat.le_of_ble_eq_true rfl) rfl dX2_init_19 ?_
  exact hret _ _ dX2_init_22
theorem ob_X3_3 : Cond.methodLink RX3 3 Lib.objectInit ∈ GT := GT_t 122 (by decide +kernel) rfl
theorem ff_X3_9 : FFd RX3 9 3 0 (.array .int) := ⟨TX3, 5, tyX3, rfl, by decide, GT_t 123 (by decide +kernel) rfl, inGX3, tyX3_ok, nmX3, rfl, rfl, rfl⟩
abbrev e_X3 (G : gG) (n : Nat) : List va_E := [.inr (3, [.ref (gb G + (n + 1)), .int (nI 0), .int 0, .int 0, .int 0]), .inl (gcI G, 120, .inl (fun _ => 0))]
set_option maxHeartbeats 4000000 in
set_option maxRecDepth 100000 in
theorem c_X3_init {G : gG} {K0 : List va_E} {n : Nat} (hn : K0.length = n) : Ck G mX3_init 1 1 120 [.ref (gb G + n)] (K0 ++ [.inr (3, [.null, .int 0, .int 0, .int 0, .int 0])]) (K0 ++ e_X3 G n) := by
  refine Ck.of hn (by decide +kernel) rfl rfl (k := 0) (ls0 := [some (.ref (gb G + n))]) rfl rfl ?_
  intro P hR hret
  refine k_aload hR 0 rfl rfl dX3_init_0 ?_
  refine k_obj hR ob_X3_3 (by decide) (Nat.le_of_ble_eq_true rfl) dX3_init_1 ?_
  refine k_aload hR 0 rfl rfl dX3_init_4 ?_
  refine k_bipush hR (nI 120) (by decide) dX3_init_5 ?_
  refine k_newi hR 1 rfl rfl (by decide) (by decide) (by decide) dX3_init_7 ?_
  refine k_putF hR 0 [.inr (3, [.ref (gb G + (n + 1)), .int 0, .int 0, .int 0, .int 0]), .inl (gcI G, 120, .inl (fun _ => 0))] rfl ff_X3_9 rfl rfl (Nat.le_of_ble_eq_true rfl) rfl dX3_init_9 ?_
  refine k_aload hR 0 rfl rfl dX3_init_12 ?_
  refine k_iconst hR (nI 0) (by decide) dX3_init_13 ?_
  refine k_put hR 0 [.inr (3, [.ref (gb G + (n + 1)), .int (nI 0), .int 0, .int 0, .int 0]), .inl (gcI G, 120, .inl (fun _ => 0))] rfl fp_X3_15 rfl rfl (Nat.le_of_ble_eq_true rfl) rfl dX3_init_14 ?_
  exact hret _ _ dX3_init_17
theorem ob_X4_3 : Cond.methodLink RX4 3 Lib.objectInit ∈ GT := GT_t 147 (by decide +kernel) rfl
theorem ff_X4_9 : FFd RX4 9 4 0 (.object "WindRota$Tape") := ⟨TX4, 1, tyX4, rfl, by decide, GT_t 148 (by decide +kernel) rfl, inGX4, tyX4_ok, nmX4, rfl, rfl, rfl⟩
abbrev e_X4 (G : gG) (n : Nat) (xt : Nat) : List va_E := [.inr (4, [.ref xt])]
set_option maxHeartbeats 4000000 in
set_option maxRecDepth 100000 in
theorem c_X4_init {G : gG} {K0 : List va_E} {n : Nat} {xt : Nat} (hn : K0.length = n) : Ck G mX4_init 1 0 0 [.ref (gb G + n), .ref xt] (K0 ++ [.inr (4, [.null])]) (K0 ++ e_X4 G n xt) := by
  refine Ck.of hn (by decide +kernel) rfl rfl (k := 0) (ls0 := [some (.ref (gb G + n)), some (.ref xt)]) rfl rfl ?_
  intro P hR hret
  refine k_aload hR 0 rfl rfl dX4_init_0 ?_
  refine k_obj hR ob_X4_3 (by decide) (Nat.le_of_ble_eq_true rfl) dX4_init_1 ?_
  refine k_aload hR 0 rfl rfl dX4_init_4 ?_
  refine k_aload hR 1 rfl rfl dX4_init_5 ?_
  refine k_putF hR 0 [.inr (4, [.ref xt])] rfl ff_X4_9 rfl rfl (Nat.le_of_ble_eq_true rfl) rfl dX4_init_6 ?_
  exact hret _ _ dX4_init_9
theorem ob_X6_3 : Cond.methodLink RX6 3 Lib.objectInit ∈ GT := GT_t 94 (by decide +kernel) rfl
theorem ff_X6_9 : FFd RX6 9 6 0 (.array .int) := ⟨TX6, 2, tyX6, rfl, by decide, GT_t 95 (by decide +kernel) rfl, inGX6, tyX6_ok, nmX6, rfl, rfl, rfl⟩
theorem ff_X6_15 : FFd RX6 15 6 1 (.array .int) := ⟨TX6, 2, tyX6, rfl, by decide, GT_t 97 (by decide +kernel) rfl, inGX6, tyX6_ok, nmX6, rfl, rfl, rfl⟩
abbrev e_X6 (G : gG) (n : Nat) : List va_E := [.inr (6, [.ref (gb G + (n + 1)), .ref (gb G + (n + 2))]), .inl (gcI G, 36, .inl (fun _ => 0)), .inl (gcI G, 36, .inl (fun _ => 0))]
set_option maxHeartbeats 4000000 in
set_option maxRecDepth 100000 in
theorem c_X6_init {G : gG} {K0 : List va_E} {n : Nat} (hn : K0.length = n) : Ck G mX6_init 1 2 72 [.ref (gb G + n)] (K0 ++ [.inr (6, [.null, .null])]) (K0 ++ e_X6 G n) := by
  refine Ck.of hn (by decide +kernel) rfl rfl (k := 0) (ls0 := [some (.ref (gb G + n))]) rfl rfl ?_
  intro P hR hret
  refine k_aload hR 0 rfl rfl dX6_init_0 ?_
  refine k_obj hR ob_X6_3 (by decide) (Nat.le_of_ble_eq_true rfl) dX6_init_1 ?_
  refine k_aload hR 0 rfl rfl dX6_init_4 ?_
  refine k_bipush hR (nI 36) (by decide) dX6_init_5 ?_
  refine k_newi hR 1 rfl rfl (by decide) (by decide) (by decide) dX6_init_7 ?_
  refine k_putF hR 0 [.inr (6, [.ref (gb G + (n + 1)), .null]), .inl (gcI G, 36, .inl (fun _ => 0))] rfl ff_X6_9 rfl rfl (Nat.le_of_ble_eq_true rfl) rfl dX6_init_9 ?_
  refine k_aload hR 0 rfl rfl dX6_init_12 ?_
  refine k_bipush hR (nI 36) (by decide) dX6_init_13 ?_
  refine k_newi hR 2 rfl rfl (by decide) (by decide) (by decide) dX6_init_15 ?_
  refine k_putF hR 0 [.inr (6, [.ref (gb G + (n + 1)), .ref (gb G + (n + 2))]), .inl (gcI G, 36, .inl (fun _ => 0)), .inl (gcI G, 36, .inl (fun _ => 0))] rfl ff_X6_15 rfl rfl (Nat.le_of_ble_eq_true rfl) rfl dX6_init_17 ?_
  exact hret _ _ dX6_init_20
theorem ob_X1_3 : Cond.methodLink RX1 3 Lib.objectInit ∈ GT := GT_t 30 (by decide +kernel) rfl
theorem ff_X1_15 : FFd RX1 15 1 1 (.array .int) := ⟨TX1, 6, tyX1, rfl, by decide, GT_t 62 (by decide +kernel) rfl, inGX1, tyX1_ok, nmX1, rfl, rfl, rfl⟩
theorem cl_X1_28 : Cond.classLink RX1 28 "WindRota$Thing" ∈ GT := GT_t 31 (by decide +kernel) rfl
theorem ff_X1_30 : FFd RX1 30 1 5 (.array (.object "WindRota$Thing")) := ⟨TX1, 6, tyX1, rfl, by decide, GT_t 72 (by decide +kernel) rfl, inGX1, tyX1_ok, nmX1, rfl, rfl, rfl⟩
theorem kn_X1_28 : KN RX1 28 RX5 TX5 4 5 tyX5 [.int 0, .int 0, .int 0, .int 0] := ⟨GT_t 31 (by decide +kernel) rfl, GT_t 33 (by decide +kernel) rfl, GT_t 3 (by decide +kernel) rfl, inGX5, tyX5_ok, rfl, fun j hj => by rcases (show j = 0 ∨ j = 1 ∨ j = 2 ∨ j = 3 by omega) with rfl | rfl | rfl | rfl <;> rfl⟩
theorem kj_X5 : KJ mX5_init 0 := ⟨kc_X5_init, rfl, GT_t 35 (by decide +kernel) rfl, rfl⟩
abbrev e_X1 (G : gG) (n : Nat) : List va_E := [.inr (1, [.int (nI 0), .ref (gb G + (n + 1)), .int (nI 0), .int (nI 4), .int (nI 0), .ref (gb G + (n + 2))]), .inl (gcI G, 7, .inl (upd (upd (upd (upd (upd (upd (upd (fun _ => 0) 0 (nI 0)) 1 (nI 1)) 2 (nI 2)) 3 (nI 3)) 4 (nI 4)) 5 (nI 5)) 6 (nI 8))), .inl (gcT G, rfA 8 (va_up (va_up (va_up (va_up (va_up (va_up (va_up (va_up (fun _ => none) 0 (some (gb G + (n + 3)))) 1 (some (gb G + (n + 4)))) 2 (some (gb G + (n + 5)))) 3 (some (gb G + (n + 6)))) 4 (some (gb G + (n + 7)))) 5 (some (gb G + (n + 8)))) 6 (some (gb G + (n + 9)))) 7 (some (gb G + (n + 10))))), .inr (5, [.int 0, .int 0, .int 0, .int 0]), .inr (5, [.int 0, .int 0, .int 0, .int 0]), .inr (5, [.int 0, .int 0, .int 0, .int 0]), .inr (5, [.int 0, .int 0, .int 0, .int 0]), .inr (5, [.int 0, .int 0, .int 0, .int 0]), .inr (5, [.int 0, .int 0, .int 0, .int 0]), .inr (5, [.int 0, .int 0, .int 0, .int 0]), .inr (5, [.int 0, .int 0, .int 0, .int 0])]
set_option maxHeartbeats 4000000 in
set_option maxRecDepth 100000 in
theorem c_X1_init {G : gG} {K0 : List va_E} {n : Nat} (hn : K0.length = n) : Ck G mX1_init 2 10 47 [.ref (gb G + n)] (K0 ++ [.inr (1, [.int 0, .null, .int 0, .int 0, .int 0, .null])]) (K0 ++ e_X1 G n) := by
  refine Ck.of hn (by decide +kernel) rfl rfl (k := 1) (ls0 := [some (.ref (gb G + n)), none]) rfl rfl ?_
  intro P hR hret
  refine k_aload hR 0 rfl rfl dX1_init_0 ?_
  refine k_obj hR ob_X1_3 (by decide) (Nat.le_of_ble_eq_true rfl) dX1_init_1 ?_
  refine k_aload hR 0 rfl rfl dX1_init_4 ?_
  refine k_iconst hR (nI 0) (by decide) dX1_init_5 ?_
  refine k_put hR 0 [.inr (1, [.int (nI 0), .null, .int 0, .int 0, .int 0, .null])] rfl fp_X1_9 rfl rfl (Nat.le_of_ble_eq_true rfl) rfl dX1_init_6 ?_
  refine k_aload hR 0 rfl rfl dX1_init_9 ?_
  refine k_bipush hR (nI 7) (by decide) dX1_init_10 ?_
  refine k_newi hR 1 rfl rfl (by decide) (by decide) (by decide) dX1_init_12 ?_
  refine k_putF hR 0 [.inr (1, [.int (nI 0), .ref (gb G + (n + 1)), .int 0, .int 0, .int 0, .null]), .inl (gcI G, 7, .inl (fun _ => 0))] rfl ff_X1_15 rfl rfl (Nat.le_of_ble_eq_true rfl) rfl dX1_init_14 ?_
  refine k_iconst hR (nI 0) (by decide) dX1_init_17 ?_
  refine k_istore hR 1 [some (.ref (gb G + (n + 0))), some (.int (nI 0))] rfl (by simp) (okSt_of1 (fun _ h => by cases h; rfl)) rfl dX1_init_18 ?_
  refine k_iload hR 1 rfl rfl dX1_init_19 ?_
  refine k_bipush hR (nI 7) (by decide) dX1_init_20 ?_
  refine k_ge_f hR 49 (by decide) dX1_init_22 (by decide) ?_
  refine k_aload hR 0 rfl rfl dX1_init_25 ?_
  refine k_get hR 0 rfl fl_X1_15 rfl dX1_init_26 ?_
  refine k_iload hR 1 rfl rfl dX1_init_29 ?_
  refine k_iload hR 1 rfl rfl dX1_init_30 ?_
  refine k_bipush hR (nI 6) (by decide) dX1_init_31 ?_
  refine k_ne_t hR 41 (by decide) dX1_init_33 (by decide) ?_
  refine k_iload hR 1 rfl rfl dX1_init_41 ?_
  refine k_iast hR (i := 0) 1 [.inr (1, [.int (nI 0), .ref (gb G + (n + 1)), .int 0, .int 0, .int 0, .null]), .inl (gcI G, 7, .inl (upd (fun _ => 0) 0 (nI 0)))] rfl rfl (by decide) (by decide) rfl dX1_init_42 ?_
  refine k_iinc hR (nI 1) [some (.ref (gb G + (n + 0))), some (.int (nI 1))] (by simp) (okSt_of1 (fun _ h => by cases h; rfl)) rfl (by decide) (by rw [nI_add]; rfl) dX1_init_43 ?_
  refine k_goto hR 19 dX1_init_46 (by decide) ?_
  refine k_iload hR 1 rfl rfl dX1_init_19 ?_
  refine k_bipush hR (nI 7) (by decide) dX1_init_20 ?_
  refine k_ge_f hR 49 (by decide) dX1_init_22 (by decide) ?_
  refine k_aload hR 0 rfl rfl dX1_init_25 ?_
  refine k_get hR 0 rfl fl_X1_15 rfl dX1_init_26 ?_
  refine k_iload hR 1 rfl rfl dX1_init_29 ?_
  refine k_iload hR 1 rfl rfl dX1_init_30 ?_
  refine k_bipush hR (nI 6) (by decide) dX1_init_31 ?_
  refine k_ne_t hR 41 (by decide) dX1_init_33 (by decide) ?_
  refine k_iload hR 1 rfl rfl dX1_init_41 ?_
  refine k_iast hR (i := 1) 1 [.inr (1, [.int (nI 0), .ref (gb G + (n + 1)), .int 0, .int 0, .int 0, .null]), .inl (gcI G, 7, .inl (upd (upd (fun _ => 0) 0 (nI 0)) 1 (nI 1)))] rfl rfl (by decide) (by decide) rfl dX1_init_42 ?_
  refine k_iinc hR (nI 1) [some (.ref (gb G + (n + 0))), some (.int (nI 2))] (by simp) (okSt_of1 (fun _ h => by cases h; rfl)) rfl (by decide) (by rw [nI_add]; rfl) dX1_init_43 ?_
  refine k_goto hR 19 dX1_init_46 (by decide) ?_
  refine k_iload hR 1 rfl rfl dX1_init_19 ?_
  refine k_bipush hR (nI 7) (by decide) dX1_init_20 ?_
  refine k_ge_f hR 49 (by decide) dX1_init_22 (by decide) ?_
  refine k_aload hR 0 rfl rfl dX1_init_25 ?_
  refine k_get hR 0 rfl fl_X1_15 rfl dX1_init_26 ?_
  refine k_iload hR 1 rfl rfl dX1_init_29 ?_
  refine k_iload hR 1 rfl rfl dX1_init_30 ?_
  refine k_bipush hR (nI 6) (by decide) dX1_init_31 ?_
  refine k_ne_t hR 41 (by decide) dX1_init_33 (by decide) ?_
  refine k_iload hR 1 rfl rfl dX1_init_41 ?_
  refine k_iast hR (i := 2) 1 [.inr (1, [.int (nI 0), .ref (gb G + (n + 1)), .int 0, .int 0, .int 0, .null]), .inl (gcI G, 7, .inl (upd (upd (upd (fun _ => 0) 0 (nI 0)) 1 (nI 1)) 2 (nI 2)))] rfl rfl (by decide) (by decide) rfl dX1_init_42 ?_
  refine k_iinc hR (nI 1) [some (.ref (gb G + (n + 0))), some (.int (nI 3))] (by simp) (okSt_of1 (fun _ h => by cases h; rfl)) rfl (by decide) (by rw [nI_add]; rfl) dX1_init_43 ?_
  refine k_goto hR 19 dX1_init_46 (by decide) ?_
  refine k_iload hR 1 rfl rfl dX1_init_19 ?_
  refine k_bipush hR (nI 7) (by decide) dX1_init_20 ?_
  refine k_ge_f hR 49 (by decide) dX1_init_22 (by decide) ?_
  refine k_aload hR 0 rfl rfl dX1_init_25 ?_
  refine k_get hR 0 rfl fl_X1_15 rfl dX1_init_26 ?_
  refine k_iload hR 1 rfl rfl dX1_init_29 ?_
  refine k_iload hR 1 rfl rfl dX1_init_30 ?_
  refine k_bipush hR (nI 6) (by decide) dX1_init_31 ?_
  refine k_ne_t hR 41 (by decide) dX1_init_33 (by decide) ?_
  refine k_iload hR 1 rfl rfl dX1_init_41 ?_
  refine k_iast hR (i := 3) 1 [.inr (1, [.int (nI 0), .ref (gb G + (n + 1)), .int 0, .int 0, .int 0, .null]), .inl (gcI G, 7, .inl (upd (upd (upd (upd (fun _ => 0) 0 (nI 0)) 1 (nI 1)) 2 (nI 2)) 3 (nI 3)))] rfl rfl (by decide) (by decide) rfl dX1_init_42 ?_
  refine k_iinc hR (nI 1) [some (.ref (gb G + (n + 0))), some (.int (nI 4))] (by simp) (okSt_of1 (fun _ h => by cases h; rfl)) rfl (by decide) (by rw [nI_add]; rfl) dX1_init_43 ?_
  refine k_goto hR 19 dX1_init_46 (by decide) ?_
  refine k_iload hR 1 rfl rfl dX1_init_19 ?_
  refine k_bipush hR (nI 7) (by decide) dX1_init_20 ?_
  refine k_ge_f hR 49 (by decide) dX1_init_22 (by decide) ?_
  refine k_aload hR 0 rfl rfl dX1_init_25 ?_
  refine k_get hR 0 rfl fl_X1_15 rfl dX1_init_26 ?_
  refine k_iload hR 1 rfl rfl dX1_init_29 ?_
  refine k_iload hR 1 rfl rfl dX1_init_30 ?_
  refine k_bipush hR (nI 6) (by decide) dX1_init_31 ?_
  refine k_ne_t hR 41 (by decide) dX1_init_33 (by decide) ?_
  refine k_iload hR 1 rfl rfl dX1_init_41 ?_
  refine k_iast hR (i := 4) 1 [.inr (1, [.int (nI 0), .ref (gb G + (n + 1)), .int 0, .int 0, .int 0, .null]), .inl (gcI G, 7, .inl (upd (upd (upd (upd (upd (fun _ => 0) 0 (nI 0)) 1 (nI 1)) 2 (nI 2)) 3 (nI 3)) 4 (nI 4)))] rfl rfl (by decide) (by decide) rfl dX1_init_42 ?_
  refine k_iinc hR (nI 1) [some (.ref (gb G + (n + 0))), some (.int (nI 5))] (by simp) (okSt_of1 (fun _ h => by cases h; rfl)) rfl (by decide) (by rw [nI_add]; rfl) dX1_init_43 ?_
  refine k_goto hR 19 dX1_init_46 (by decide) ?_
  refine k_iload hR 1 rfl rfl dX1_init_19 ?_
  refine k_bipush hR (nI 7) (by decide) dX1_init_20 ?_
  refine k_ge_f hR 49 (by decide) dX1_init_22 (by decide) ?_
  refine k_aload hR 0 rfl rfl dX1_init_25 ?_
  refine k_get hR 0 rfl fl_X1_15 rfl dX1_init_26 ?_
  refine k_iload hR 1 rfl rfl dX1_init_29 ?_
  refine k_iload hR 1 rfl rfl dX1_init_30 ?_
  refine k_bipush hR (nI 6) (by decide) dX1_init_31 ?_
  refine k_ne_t hR 41 (by decide) dX1_init_33 (by decide) ?_
  refine k_iload hR 1 rfl rfl dX1_init_41 ?_
  refine k_iast hR (i := 5) 1 [.inr (1, [.int (nI 0), .ref (gb G + (n + 1)), .int 0, .int 0, .int 0, .null]), .inl (gcI G, 7, .inl (upd (upd (upd (upd (upd (upd (fun _ => 0) 0 (nI 0)) 1 (nI 1)) 2 (nI 2)) 3 (nI 3)) 4 (nI 4)) 5 (nI 5)))] rfl rfl (by decide) (by decide) rfl dX1_init_42 ?_
  refine k_iinc hR (nI 1) [some (.ref (gb G + (n + 0))), some (.int (nI 6))] (by simp) (okSt_of1 (fun _ h => by cases h; rfl)) rfl (by decide) (by rw [nI_add]; rfl) dX1_init_43 ?_
  refine k_goto hR 19 dX1_init_46 (by decide) ?_
  refine k_iload hR 1 rfl rfl dX1_init_19 ?_
  refine k_bipush hR (nI 7) (by decide) dX1_init_20 ?_
  refine k_ge_f hR 49 (by decide) dX1_init_22 (by decide) ?_
  refine k_aload hR 0 rfl rfl dX1_init_25 ?_
  refine k_get hR 0 rfl fl_X1_15 rfl dX1_init_26 ?_
  refine k_iload hR 1 rfl rfl dX1_init_29 ?_
  refine k_iload hR 1 rfl rfl dX1_init_30 ?_
  refine k_bipush hR (nI 6) (by decide) dX1_init_31 ?_
  refine k_ne_f hR 41 (by decide) dX1_init_33 (by decide) ?_
  refine k_bipush hR (nI 8) (by decide) dX1_init_36 ?_
  refine k_goto hR 42 dX1_init_38 (by decide) ?_
  refine k_iast hR (i := 6) 1 [.inr (1, [.int (nI 0), .ref (gb G + (n + 1)), .int 0, .int 0, .int 0, .null]), .inl (gcI G, 7, .inl (upd (upd (upd (upd (upd (upd (upd (fun _ => 0) 0 (nI 0)) 1 (nI 1)) 2 (nI 2)) 3 (nI 3)) 4 (nI 4)) 5 (nI 5)) 6 (nI 8)))] rfl rfl (by decide) (by decide) rfl dX1_init_42 ?_
  refine k_iinc hR (nI 1) [some (.ref (gb G + (n + 0))), some (.int (nI 7))] (by simp) (okSt_of1 (fun _ h => by cases h; rfl)) rfl (by decide) (by rw [nI_add]; rfl) dX1_init_43 ?_
  refine k_goto hR 19 dX1_init_46 (by decide) ?_
  refine k_iload hR 1 rfl rfl dX1_init_19 ?_
  refine k_bipush hR (nI 7) (by decide) dX1_init_20 ?_
  refine k_ge_t hR 49 (by decide) dX1_init_22 (by decide) ?_
  refine k_aload hR 0 rfl rfl dX1_init_49 ?_
  refine k_iconst hR (nI 0) (by decide) dX1_init_50 ?_
  refine k_put hR 0 [.inr (1, [.int (nI 0), .ref (gb G + (n + 1)), .int (nI 0), .int 0, .int 0, .null]), .inl (gcI G, 7, .inl (upd (upd (upd (upd (upd (upd (upd (fun _ => 0) 0 (nI 0)) 1 (nI 1)) 2 (nI 2)) 3 (nI 3)) 4 (nI 4)) 5 (nI 5)) 6 (nI 8)))] rfl fp_X1_19 rfl rfl (Nat.le_of_ble_eq_true rfl) rfl dX1_init_51 ?_
  refine k_aload hR 0 rfl rfl dX1_init_54 ?_
  refine k_iconst hR (nI 4) (by decide) dX1_init_55 ?_
  refine k_put hR 0 [.inr (1, [.int (nI 0), .ref (gb G + (n + 1)), .int (nI 0), .int (nI 4), .int 0, .null]), .inl (gcI G, 7, .inl (upd (upd (upd (upd (upd (upd (upd (fun _ => 0) 0 (nI 0)) 1 (nI 1)) 2 (nI 2)) 3 (nI 3)) 4 (nI 4)) 5 (nI 5)) 6 (nI 8)))] rfl fp_X1_22 rfl rfl (Nat.le_of_ble_eq_true rfl) rfl dX1_init_56 ?_
  refine k_aload hR 0 rfl rfl dX1_init_59 ?_
  refine k_iconst hR (nI 0) (by decide) dX1_init_60 ?_
  refine k_put hR 0 [.inr (1, [.int (nI 0), .ref (gb G + (n + 1)), .int (nI 0), .int (nI 4), .int (nI 0), .null]), .inl (gcI G, 7, .inl (upd (upd (upd (upd (upd (upd (upd (fun _ => 0) 0 (nI 0)) 1 (nI 1)) 2 (nI 2)) 3 (nI 3)) 4 (nI 4)) 5 (nI 5)) 6 (nI 8)))] rfl fp_X1_25 rfl rfl (Nat.le_of_ble_eq_true rfl) rfl dX1_init_61 ?_
  refine k_aload hR 0 rfl rfl dX1_init_64 ?_
  refine k_bipush hR (nI 8) (by decide) dX1_init_65 ?_
  refine k_newq hR (t0 := 3) 2 cl_X1_28 (fun U h => h.2.1) rfl rfl rfl (by decide) (by decide) (by decide) dX1_init_67 ?_
  refine k_putF hR 0 [.inr (1, [.int (nI 0), .ref (gb G + (n + 1)), .int (nI 0), .int (nI 4), .int (nI 0), .ref (gb G + (n + 2))]), .inl (gcI G, 7, .inl (upd (upd (upd (upd (upd (upd (upd (fun _ => 0) 0 (nI 0)) 1 (nI 1)) 2 (nI 2)) 3 (nI 3)) 4 (nI 4)) 5 (nI 5)) 6 (nI 8))), .inl (gcT G, rfA 8 (fun _ => none))] rfl ff_X1_30 rfl rfl (Nat.le_of_ble_eq_true rfl) rfl dX1_init_70 ?_
  refine k_iconst hR (nI 0) (by decide) dX1_init_73 ?_
  refine k_istore hR 1 [some (.ref (gb G + (n + 0))), some (.int (nI 0))] rfl (by simp) (okSt_of1 (fun _ h => by cases h; rfl)) rfl dX1_init_74 ?_
  refine k_iload hR 1 rfl rfl dX1_init_75 ?_
  refine k_bipush hR (nI 8) (by decide) dX1_init_76 ?_
  refine k_ge_f hR 100 (by decide) dX1_init_78 (by decide) ?_
  refine k_aload hR 0 rfl rfl dX1_init_81 ?_
  refine k_get hR 0 rfl fl_X1_30 rfl dX1_init_82 ?_
  refine k_iload hR 1 rfl rfl dX1_init_85 ?_
  refine k_new hR 3 kn_X1_28 rfl (by decide) (by decide) dX1_init_86 ?_
  refine k_dup hR rfl dX1_init_89 ?_
  refine k_callN hR (As := []) (host := RX7) 3 kj_X5 (fun U h => h.2.2.2.1) (by decide) rfl (c_X5_init (K0 := K0 ++ _) (n := n + 3) (by rw [List.length_append, hn]; rfl)) rfl (by decide) (by decide) rfl (Nat.le_of_ble_eq_true rfl) dX1_init_90 ?_
  refine k_aast hR (t0 := 3) (ci := 5) 2 3 [.inr (1, [.int (nI 0), .ref (gb G + (n + 1)), .int (nI 0), .int (nI 4), .int (nI 0), .ref (gb G + (n + 2))]), .inl (gcI G, 7, .inl (upd (upd (upd (upd (upd (upd (upd (fun _ => 0) 0 (nI 0)) 1 (nI 1)) 2 (nI 2)) 3 (nI 3)) 4 (nI 4)) 5 (nI 5)) 6 (nI 8))), .inl (gcT G, rfA 8 (va_up (fun _ => none) 0 (some (gb G + (n + 3))))), .inr (5, [.int 0, .int 0, .int 0, .int 0])] rfl rfl rfl rfl rfl (by decide) (by decide) rfl dX1_init_93 ?_
  refine k_iinc hR (nI 1) [some (.ref (gb G + (n + 0))), some (.int (nI 1))] (by simp) (okSt_of1 (fun _ h => by cases h; rfl)) rfl (by decide) (by rw [nI_add]; rfl) dX1_init_94 ?_
  refine k_goto hR 75 dX1_init_97 (by decide) ?_
  refine k_iload hR 1 rfl rfl dX1_init_75 ?_
  refine k_bipush hR (nI 8) (by decide) dX1_init_76 ?_
  refine k_ge_f hR 100 (by decide) dX1_init_78 (by decide) ?_
  refine k_aload hR 0 rfl rfl dX1_init_81 ?_
  refine k_get hR 0 rfl fl_X1_30 rfl dX1_init_82 ?_
  refine k_iload hR 1 rfl rfl dX1_init_85 ?_
  refine k_new hR 4 kn_X1_28 rfl (by decide) (by decide) dX1_init_86 ?_
  refine k_dup hR rfl dX1_init_89 ?_
  refine k_callN hR (As := []) (host := RX7) 4 kj_X5 (fun U h => h.2.2.2.1) (by decide) rfl (c_X5_init (K0 := K0 ++ _) (n := n + 4) (by rw [List.length_append, hn]; rfl)) rfl (by decide) (by decide) rfl (Nat.le_of_ble_eq_true rfl) dX1_init_90 ?_
  refine k_aast hR (t0 := 3) (ci := 5) 2 4 [.inr (1, [.int (nI 0), .ref (gb G + (n + 1)), .int (nI 0), .int (nI 4), .int (nI 0), .ref (gb G + (n + 2))]), .inl (gcI G, 7, .inl (upd (upd (upd (upd (upd (upd (upd (fun _ => 0) 0 (nI 0)) 1 (nI 1)) 2 (nI 2)) 3 (nI 3)) 4 (nI 4)) 5 (nI 5)) 6 (nI 8))), .inl (gcT G, rfA 8 (va_up (va_up (fun _ => none) 0 (some (gb G + (n + 3)))) 1 (some (gb G + (n + 4))))), .inr (5, [.int 0, .int 0, .int 0, .int 0]), .inr (5, [.int 0, .int 0, .int 0, .int 0])] rfl rfl rfl rfl rfl (by decide) (by decide) rfl dX1_init_93 ?_
  refine k_iinc hR (nI 1) [some (.ref (gb G + (n + 0))), some (.int (nI 2))] (by simp) (okSt_of1 (fun _ h => by cases h; rfl)) rfl (by decide) (by rw [nI_add]; rfl) dX1_init_94 ?_
  refine k_goto hR 75 dX1_init_97 (by decide) ?_
  refine k_iload hR 1 rfl rfl dX1_init_75 ?_
  refine k_bipush hR (nI 8) (by decide) dX1_init_76 ?_
  refine k_ge_f hR 100 (by decide) dX1_init_78 (by decide) ?_
  refine k_aload hR 0 rfl rfl dX1_init_81 ?_
  refine k_get hR 0 rfl fl_X1_30 rfl dX1_init_82 ?_
  refine k_iload hR 1 rfl rfl dX1_init_85 ?_
  refine k_new hR 5 kn_X1_28 rfl (by decide) (by decide) dX1_init_86 ?_
  refine k_dup hR rfl dX1_init_89 ?_
  refine k_callN hR (As := []) (host := RX7) 5 kj_X5 (fun U h => h.2.2.2.1) (by decide) rfl (c_X5_init (K0 := K0 ++ _) (n := n + 5) (by rw [List.length_append, hn]; rfl)) rfl (by decide) (by decide) rfl (Nat.le_of_ble_eq_true rfl) dX1_init_90 ?_
  refine k_aast hR (t0 := 3) (ci := 5) 2 5 [.inr (1, [.int (nI 0), .ref (gb G + (n + 1)), .int (nI 0), .int (nI 4), .int (nI 0), .ref (gb G + (n + 2))]), .inl (gcI G, 7, .inl (upd (upd (upd (upd (upd (upd (upd (fun _ => 0) 0 (nI 0)) 1 (nI 1)) 2 (nI 2)) 3 (nI 3)) 4 (nI 4)) 5 (nI 5)) 6 (nI 8))), .inl (gcT G, rfA 8 (va_up (va_up (va_up (fun _ => none) 0 (some (gb G + (n + 3)))) 1 (some (gb G + (n + 4)))) 2 (some (gb G + (n + 5))))), .inr (5, [.int 0, .int 0, .int 0, .int 0]), .inr (5, [.int 0, .int 0, .int 0, .int 0]), .inr (5, [.int 0, .int 0, .int 0, .int 0])] rfl rfl rfl rfl rfl (by decide) (by decide) rfl dX1_init_93 ?_
  refine k_iinc hR (nI 1) [some (.ref (gb G + (n + 0))), some (.int (nI 3))] (by simp) (okSt_of1 (fun _ h => by cases h; rfl)) rfl (by decide) (by rw [nI_add]; rfl) dX1_init_94 ?_
  refine k_goto hR 75 dX1_init_97 (by decide) ?_
  refine k_iload hR 1 rfl rfl dX1_init_75 ?_
  refine k_bipush hR (nI 8) (by decide) dX1_init_76 ?_
  refine k_ge_f hR 100 (by decide) dX1_init_78 (by decide) ?_
  refine k_aload hR 0 rfl rfl dX1_init_81 ?_
  refine k_get hR 0 rfl fl_X1_30 rfl dX1_init_82 ?_
  refine k_iload hR 1 rfl rfl dX1_init_85 ?_
  refine k_new hR 6 kn_X1_28 rfl (by decide) (by decide) dX1_init_86 ?_
  refine k_dup hR rfl dX1_init_89 ?_
  refine k_callN hR (As := []) (host := RX7) 6 kj_X5 (fun U h => h.2.2.2.1) (by decide) rfl (c_X5_init (K0 := K0 ++ _) (n := n + 6) (by rw [List.length_append, hn]; rfl)) rfl (by decide) (by decide) rfl (Nat.le_of_ble_eq_true rfl) dX1_init_90 ?_
  refine k_aast hR (t0 := 3) (ci := 5) 2 6 [.inr (1, [.int (nI 0), .ref (gb G + (n + 1)), .int (nI 0), .int (nI 4), .int (nI 0), .ref (gb G + (n + 2))]), .inl (gcI G, 7, .inl (upd (upd (upd (upd (upd (upd (upd (fun _ => 0) 0 (nI 0)) 1 (nI 1)) 2 (nI 2)) 3 (nI 3)) 4 (nI 4)) 5 (nI 5)) 6 (nI 8))), .inl (gcT G, rfA 8 (va_up (va_up (va_up (va_up (fun _ => none) 0 (some (gb G + (n + 3)))) 1 (some (gb G + (n + 4)))) 2 (some (gb G + (n + 5)))) 3 (some (gb G + (n + 6))))), .inr (5, [.int 0, .int 0, .int 0, .int 0]), .inr (5, [.int 0, .int 0, .int 0, .int 0]), .inr (5, [.int 0, .int 0, .int 0, .int 0]), .inr (5, [.int 0, .int 0, .int 0, .int 0])] rfl rfl rfl rfl rfl (by decide) (by decide) rfl dX1_init_93 ?_
  refine k_iinc hR (nI 1) [some (.ref (gb G + (n + 0))), some (.int (nI 4))] (by simp) (okSt_of1 (fun _ h => by cases h; rfl)) rfl (by decide) (by rw [nI_add]; rfl) dX1_init_94 ?_
  refine k_goto hR 75 dX1_init_97 (by decide) ?_
  refine k_iload hR 1 rfl rfl dX1_init_75 ?_
  refine k_bipush hR (nI 8) (by decide) dX1_init_76 ?_
  refine k_ge_f hR 100 (by decide) dX1_init_78 (by decide) ?_
  refine k_aload hR 0 rfl rfl dX1_init_81 ?_
  refine k_get hR 0 rfl fl_X1_30 rfl dX1_init_82 ?_
  refine k_iload hR 1 rfl rfl dX1_init_85 ?_
  refine k_new hR 7 kn_X1_28 rfl (by decide) (by decide) dX1_init_86 ?_
  refine k_dup hR rfl dX1_init_89 ?_
  refine k_callN hR (As := []) (host := RX7) 7 kj_X5 (fun U h => h.2.2.2.1) (by decide) rfl (c_X5_init (K0 := K0 ++ _) (n := n + 7) (by rw [List.length_append, hn]; rfl)) rfl (by decide) (by decide) rfl (Nat.le_of_ble_eq_true rfl) dX1_init_90 ?_
  refine k_aast hR (t0 := 3) (ci := 5) 2 7 [.inr (1, [.int (nI 0), .ref (gb G + (n + 1)), .int (nI 0), .int (nI 4), .int (nI 0), .ref (gb G + (n + 2))]), .inl (gcI G, 7, .inl (upd (upd (upd (upd (upd (upd (upd (fun _ => 0) 0 (nI 0)) 1 (nI 1)) 2 (nI 2)) 3 (nI 3)) 4 (nI 4)) 5 (nI 5)) 6 (nI 8))), .inl (gcT G, rfA 8 (va_up (va_up (va_up (va_up (va_up (fun _ => none) 0 (some (gb G + (n + 3)))) 1 (some (gb G + (n + 4)))) 2 (some (gb G + (n + 5)))) 3 (some (gb G + (n + 6)))) 4 (some (gb G + (n + 7))))), .inr (5, [.int 0, .int 0, .int 0, .int 0]), .inr (5, [.int 0, .int 0, .int 0, .int 0]), .inr (5, [.int 0, .int 0, .int 0, .int 0]), .inr (5, [.int 0, .int 0, .int 0, .int 0]), .inr (5, [.int 0, .int 0, .int 0, .int 0])] rfl rfl rfl rfl rfl (by decide) (by decide) rfl dX1_init_93 ?_
  refine k_iinc hR (nI 1) [some (.ref (gb G + (n + 0))), some (.int (nI 5))] (by simp) (okSt_of1 (fun _ h => by cases h; rfl)) rfl (by decide) (by rw [nI_add]; rfl) dX1_init_94 ?_
  refine k_goto hR 75 dX1_init_97 (by decide) ?_
  refine k_iload hR 1 rfl rfl dX1_init_75 ?_
  refine k_bipush hR (nI 8) (by decide) dX1_init_76 ?_
  refine k_ge_f hR 100 (by decide) dX1_init_78 (by decide) ?_
  refine k_aload hR 0 rfl rfl dX1_init_81 ?_
  refine k_get hR 0 rfl fl_X1_30 rfl dX1_init_82 ?_
  refine k_iload hR 1 rfl rfl dX1_init_85 ?_
  refine k_new hR 8 kn_X1_28 rfl (by decide) (by decide) dX1_init_86 ?_
  refine k_dup hR rfl dX1_init_89 ?_
  refine k_callN hR (As := []) (host := RX7) 8 kj_X5 (fun U h => h.2.2.2.1) (by decide) rfl (c_X5_init (K0 := K0 ++ _) (n := n + 8) (by rw [List.length_append, hn]; rfl)) rfl (by decide) (by decide) rfl (Nat.le_of_ble_eq_true rfl) dX1_init_90 ?_
  refine k_aast hR (t0 := 3) (ci := 5) 2 8 [.inr (1, [.int (nI 0), .ref (gb G + (n + 1)), .int (nI 0), .int (nI 4), .int (nI 0), .ref (gb G + (n + 2))]), .inl (gcI G, 7, .inl (upd (upd (upd (upd (upd (upd (upd (fun _ => 0) 0 (nI 0)) 1 (nI 1)) 2 (nI 2)) 3 (nI 3)) 4 (nI 4)) 5 (nI 5)) 6 (nI 8))), .inl (gcT G, rfA 8 (va_up (va_up (va_up (va_up (va_up (va_up (fun _ => none) 0 (some (gb G + (n + 3)))) 1 (some (gb G + (n + 4)))) 2 (some (gb G + (n + 5)))) 3 (some (gb G + (n + 6)))) 4 (some (gb G + (n + 7)))) 5 (some (gb G + (n + 8))))), .inr (5, [.int 0, .int 0, .int 0, .int 0]), .inr (5, [.int 0, .int 0, .int 0, .int 0]), .inr (5, [.int 0, .int 0, .int 0, .int 0]), .inr (5, [.int 0, .int 0, .int 0, .int 0]), .inr (5, [.int 0, .int 0, .int 0, .int 0]), .inr (5, [.int 0, .int 0, .int 0, .int 0])] rfl rfl rfl rfl rfl (by decide) (by decide) rfl dX1_init_93 ?_
  refine k_iinc hR (nI 1) [some (.ref (gb G + (n + 0))), some (.int (nI 6))] (by simp) (okSt_of1 (fun _ h => by cases h; rfl)) rfl (by decide) (by rw [nI_add]; rfl) dX1_init_94 ?_
  refine k_goto hR 75 dX1_init_97 (by decide) ?_
  refine k_iload hR 1 rfl rfl dX1_init_75 ?_
  refine k_bipush hR (nI 8) (by decide) dX1_init_76 ?_
  refine k_ge_f hR 100 (by decide) dX1_init_78 (by decide) ?_
  refine k_aload hR 0 rfl rfl dX1_init_81 ?_
  refine k_get hR 0 rfl fl_X1_30 rfl dX1_init_82 ?_
  refine k_iload hR 1 rfl rfl dX1_init_85 ?_
  refine k_new hR 9 kn_X1_28 rfl (by decide) (by decide) dX1_init_86 ?_
  refine k_dup hR rfl dX1_init_89 ?_
  refine k_callN hR (As := []) (host := RX7) 9 kj_X5 (fun U h => h.2.2.2.1) (by decide) rfl (c_X5_init (K0 := K0 ++ _) (n := n + 9) (by rw [List.length_append, hn]; rfl)) rfl (by decide) (by decide) rfl (Nat.le_of_ble_eq_true rfl) dX1_init_90 ?_
  refine k_aast hR (t0 := 3) (ci := 5) 2 9 [.inr (1, [.int (nI 0), .ref (gb G + (n + 1)), .int (nI 0), .int (nI 4), .int (nI 0), .ref (gb G + (n + 2))]), .inl (gcI G, 7, .inl (upd (upd (upd (upd (upd (upd (upd (fun _ => 0) 0 (nI 0)) 1 (nI 1)) 2 (nI 2)) 3 (nI 3)) 4 (nI 4)) 5 (nI 5)) 6 (nI 8))), .inl (gcT G, rfA 8 (va_up (va_up (va_up (va_up (va_up (va_up (va_up (fun _ => none) 0 (some (gb G + (n + 3)))) 1 (some (gb G + (n + 4)))) 2 (some (gb G + (n + 5)))) 3 (some (gb G + (n + 6)))) 4 (some (gb G + (n + 7)))) 5 (some (gb G + (n + 8)))) 6 (some (gb G + (n + 9))))), .inr (5, [.int 0, .int 0, .int 0, .int 0]), .inr (5, [.int 0, .int 0, .int 0, .int 0]), .inr (5, [.int 0, .int 0, .int 0, .int 0]), .inr (5, [.int 0, .int 0, .int 0, .int 0]), .inr (5, [.int 0, .int 0, .int 0, .int 0]), .inr (5, [.int 0, .int 0, .int 0, .int 0]), .inr (5, [.int 0, .int 0, .int 0, .int 0])] rfl rfl rfl rfl rfl (by decide) (by decide) rfl dX1_init_93 ?_
  refine k_iinc hR (nI 1) [some (.ref (gb G + (n + 0))), some (.int (nI 7))] (by simp) (okSt_of1 (fun _ h => by cases h; rfl)) rfl (by decide) (by rw [nI_add]; rfl) dX1_init_94 ?_
  refine k_goto hR 75 dX1_init_97 (by decide) ?_
  refine k_iload hR 1 rfl rfl dX1_init_75 ?_
  refine k_bipush hR (nI 8) (by decide) dX1_init_76 ?_
  refine k_ge_f hR 100 (by decide) dX1_init_78 (by decide) ?_
  refine k_aload hR 0 rfl rfl dX1_init_81 ?_
  refine k_get hR 0 rfl fl_X1_30 rfl dX1_init_82 ?_
  refine k_iload hR 1 rfl rfl dX1_init_85 ?_
  refine k_new hR 10 kn_X1_28 rfl (by decide) (by decide) dX1_init_86 ?_
  refine k_dup hR rfl dX1_init_89 ?_
  refine k_callN hR (As := []) (host := RX7) 10 kj_X5 (fun U h => h.2.2.2.1) (by decide) rfl (c_X5_init (K0 := K0 ++ _) (n := n + 10) (by rw [List.length_append, hn]; rfl)) rfl (by decide) (by decide) rfl (Nat.le_of_ble_eq_true rfl) dX1_init_90 ?_
  refine k_aast hR (t0 := 3) (ci := 5) 2 10 [.inr (1, [.int (nI 0), .ref (gb G + (n + 1)), .int (nI 0), .int (nI 4), .int (nI 0), .ref (gb G + (n + 2))]), .inl (gcI G, 7, .inl (upd (upd (upd (upd (upd (upd (upd (fun _ => 0) 0 (nI 0)) 1 (nI 1)) 2 (nI 2)) 3 (nI 3)) 4 (nI 4)) 5 (nI 5)) 6 (nI 8))), .inl (gcT G, rfA 8 (va_up (va_up (va_up (va_up (va_up (va_up (va_up (va_up (fun _ => none) 0 (some (gb G + (n + 3)))) 1 (some (gb G + (n + 4)))) 2 (some (gb G + (n + 5)))) 3 (some (gb G + (n + 6)))) 4 (some (gb G + (n + 7)))) 5 (some (gb G + (n + 8)))) 6 (some (gb G + (n + 9)))) 7 (some (gb G + (n + 10))))), .inr (5, [.int 0, .int 0, .int 0, .int 0]), .inr (5, [.int 0, .int 0, .int 0, .int 0]), .inr (5, [.int 0, .int 0, .int 0, .int 0]), .inr (5, [.int 0, .int 0, .int 0, .int 0]), .inr (5, [.int 0, .int 0, .int 0, .int 0]), .inr (5, [.int 0, .int 0, .int 0, .int 0]), .inr (5, [.int 0, .int 0, .int 0, .int 0]), .inr (5, [.int 0, .int 0, .int 0, .int 0])] rfl rfl rfl rfl rfl (by decide) (by decide) rfl dX1_init_93 ?_
  refine k_iinc hR (nI 1) [some (.ref (gb G + (n + 0))), some (.int (nI 8))] (by simp) (okSt_of1 (fun _ h => by cases h; rfl)) rfl (by decide) (by rw [nI_add]; rfl) dX1_init_94 ?_
  refine k_goto hR 75 dX1_init_97 (by decide) ?_
  refine k_iload hR 1 rfl rfl dX1_init_75 ?_
  refine k_bipush hR (nI 8) (by decide) dX1_init_76 ?_
  refine k_ge_t hR 100 (by decide) dX1_init_78 (by decide) ?_
  exact hret _ _ dX1_init_100
theorem ob_X8_3 : Cond.methodLink RX8 3 Lib.objectInit ∈ GT := GT_t 709 (by decide +kernel) rfl
theorem ff_X8_9 : FFd RX8 9 8 0 (.array .int) := ⟨TX8, 17, tyX8, rfl, by decide, GT_t 710 (by decide +kernel) rfl, inGX8, tyX8_ok, nmX8, rfl, rfl, rfl⟩
theorem ff_X8_13 : FFd RX8 13 8 1 (.array .int) := ⟨TX8, 17, tyX8, rfl, by decide, GT_t 711 (by decide +kernel) rfl, inGX8, tyX8_ok, nmX8, rfl, rfl, rfl⟩
theorem ff_X8_16 : FFd RX8 16 8 2 (.array .int) := ⟨TX8, 17, tyX8, rfl, by decide, GT_t 712 (by decide +kernel) rfl, inGX8, tyX8_ok, nmX8, rfl, rfl, rfl⟩
theorem ff_X8_19 : FFd RX8 19 8 4 (.array .int) := ⟨TX8, 17, tyX8, rfl, by decide, GT_t 714 (by decide +kernel) rfl, inGX8, tyX8_ok, nmX8, rfl, rfl, rfl⟩
theorem ff_X8_22 : FFd RX8 22 8 5 (.array .int) := ⟨TX8, 17, tyX8, rfl, by decide, GT_t 715 (by decide +kernel) rfl, inGX8, tyX8_ok, nmX8, rfl, rfl, rfl⟩
theorem ff_X8_25 : FFd RX8 25 8 6 (.array .int) := ⟨TX8, 17, tyX8, rfl, by decide, GT_t 716 (by decide +kernel) rfl, inGX8, tyX8_ok, nmX8, rfl, rfl, rfl⟩
theorem ff_X8_28 : FFd RX8 28 8 7 (.array .int) := ⟨TX8, 17, tyX8, rfl, by decide, GT_t 717 (by decide +kernel) rfl, inGX8, tyX8_ok, nmX8, rfl, rfl, rfl⟩
theorem ff_X8_31 : FFd RX8 31 8 14 (.array .int) := ⟨TX8, 17, tyX8, rfl, by decide, GT_t 724 (by decide +kernel) rfl, inGX8, tyX8_ok, nmX8, rfl, rfl, rfl⟩
theorem ff_X8_34 : FFd RX8 34 8 15 (.array .int) := ⟨TX8, 17, tyX8, rfl, by decide, GT_t 725 (by decide +kernel) rfl, inGX8, tyX8_ok, nmX8, rfl, rfl, rfl⟩
theorem ff_X8_37 : FFd RX8 37 8 16 (.array .long) := ⟨TX8, 17, tyX8, rfl, by decide, GT_t 726 (by decide +kernel) rfl, inGX8, tyX8_ok, nmX8, rfl, rfl, rfl⟩
abbrev e_X8 (G : gG) (n : Nat) : List va_E := [.inr (8, [.ref (gb G + (n + 1)), .ref (gb G + (n + 2)), .ref (gb G + (n + 3)), .int 0, .ref (gb G + (n + 4)), .ref (gb G + (n + 5)), .ref (gb G + (n + 6)), .ref (gb G + (n + 7)), .int 0, .int 0, .int 0, .int 0, .int 0, .int 0, .ref (gb G + (n + 8)), .ref (gb G + (n + 9)), .ref (gb G + (n + 10))]), .inl (gcI G, 43, .inl (upd (upd (upd (upd (upd (upd (upd (upd (fun _ => 0) 1 (nI 4)) 4 (nI 0)) 5 (nI 1)) 6 (nI 2)) 7 (nI 3)) 8 (nI 4)) 9 (nI 5)) 10 (nI 8))), .inl (gcI G, 43, .inl (fun _ => 0)), .inl (gcI G, 43, .inl (fun _ => 0)), .inl (gcI G, 7, .inl (fun _ => 0)), .inl (gcI G, 36, .inl (fun _ => 0)), .inl (gcI G, 36, .inl (fun _ => 0)), .inl (gcI G, 120, .inl (fun _ => 0)), .inl (gcI G, 4, .inl (fun _ => 0)), .inl (gcI G, 4, .inl (fun _ => 0)), .inl (gcL G, 160, .inr (.inl (fun _ => 0)))]
set_option maxHeartbeats 4000000 in
set_option maxRecDepth 100000 in
theorem c_X8_init {G : gG} {K0 : List va_E} {n : Nat} (hn : K0.length = n) : Ck G mX8_init 1 10 496 [.ref (gb G + n)] (K0 ++ [.inr (8, [.null, .null, .null, .int 0, .null, .null, .null, .null, .int 0, .int 0, .int 0, .int 0, .int 0, .int 0, .null, .null, .null])]) (K0 ++ e_X8 G n) := by
  refine Ck.of hn (by decide +kernel) rfl rfl (k := 1) (ls0 := [some (.ref (gb G + n)), none]) rfl rfl ?_
  intro P hR hret
  refine k_aload hR 0 rfl rfl dX8_init_0 ?_
  refine k_obj hR ob_X8_3 (by decide) (Nat.le_of_ble_eq_true rfl) dX8_init_1 ?_
  refine k_aload hR 0 rfl rfl dX8_init_4 ?_
  refine k_bipush hR (nI 43) (by decide) dX8_init_5 ?_
  refine k_newi hR 1 rfl rfl (by decide) (by decide) (by decide) dX8_init_7 ?_
  refine k_putF hR 0 [.inr (8, [.ref (gb G + (n + 1)), .null, .null, .int 0, .null, .null, .null, .null, .int 0, .int 0, .int 0, .int 0, .int 0, .int 0, .null, .null, .null]), .inl (gcI G, 43, .inl (fun _ => 0))] rfl ff_X8_9 rfl rfl (Nat.le_of_ble_eq_true rfl) rfl dX8_init_9 ?_
  refine k_aload hR 0 rfl rfl dX8_init_12 ?_
  refine k_bipush hR (nI 43) (by decide) dX8_init_13 ?_
  refine k_newi hR 2 rfl rfl (by decide) (by decide) (by decide) dX8_init_15 ?_
  refine k_putF hR 0 [.inr (8, [.ref (gb G + (n + 1)), .ref (gb G + (n + 2)), .null, .int 0, .null, .null, .null, .null, .int 0, .int 0, .int 0, .int 0, .int 0, .int 0, .null, .null, .null]), .inl (gcI G, 43, .inl (fun _ => 0)), .inl (gcI G, 43, .inl (fun _ => 0))] rfl ff_X8_13 rfl rfl (Nat.le_of_ble_eq_true rfl) rfl dX8_init_17 ?_
  refine k_aload hR 0 rfl rfl dX8_init_20 ?_
  refine k_bipush hR (nI 43) (by decide) dX8_init_21 ?_
  refine k_newi hR 3 rfl rfl (by decide) (by decide) (by decide) dX8_init_23 ?_
  refine k_putF hR 0 [.inr (8, [.ref (gb G + (n + 1)), .ref (gb G + (n + 2)), .ref (gb G + (n + 3)), .int 0, .null, .null, .null, .null, .int 0, .int 0, .int 0, .int 0, .int 0, .int 0, .null, .null, .null]), .inl (gcI G, 43, .inl (fun _ => 0)), .inl (gcI G, 43, .inl (fun _ => 0)), .inl (gcI G, 43, .inl (fun _ => 0))] rfl ff_X8_16 rfl rfl (Nat.le_of_ble_eq_true rfl) rfl dX8_init_25 ?_
  refine k_aload hR 0 rfl rfl dX8_init_28 ?_
  refine k_bipush hR (nI 7) (by decide) dX8_init_29 ?_
  refine k_newi hR 4 rfl rfl (by decide) (by decide) (by decide) dX8_init_31 ?_
  refine k_putF hR 0 [.inr (8, [.ref (gb G + (n + 1)), .ref (gb G + (n + 2)), .ref (gb G + (n + 3)), .int 0, .ref (gb G + (n + 4)), .null, .null, .null, .int 0, .int 0, .int 0, .int 0, .int 0, .int 0, .null, .null, .null]), .inl (gcI G, 43, .inl (fun _ => 0)), .inl (gcI G, 43, .inl (fun _ => 0)), .inl (gcI G, 43, .inl (fun _ => 0)), .inl (gcI G, 7, .inl (fun _ => 0))] rfl ff_X8_19 rfl rfl (Nat.le_of_ble_eq_true rfl) rfl dX8_init_33 ?_
  refine k_aload hR 0 rfl rfl dX8_init_36 ?_
  refine k_bipush hR (nI 36) (by decide) dX8_init_37 ?_
  refine k_newi hR 5 rfl rfl (by decide) (by decide) (by decide) dX8_init_39 ?_
  refine k_putF hR 0 [.inr (8, [.ref (gb G + (n + 1)), .ref (gb G + (n + 2)), .ref (gb G + (n + 3)), .int 0, .ref (gb G + (n + 4)), .ref (gb G + (n + 5)), .null, .null, .int 0, .int 0, .int 0, .int 0, .int 0, .int 0, .null, .null, .null]), .inl (gcI G, 43, .inl (fun _ => 0)), .inl (gcI G, 43, .inl (fun _ => 0)), .inl (gcI G, 43, .inl (fun _ => 0)), .inl (gcI G, 7, .inl (fun _ => 0)), .inl (gcI G, 36, .inl (fun _ => 0))] rfl ff_X8_22 rfl rfl (Nat.le_of_ble_eq_true rfl) rfl dX8_init_41 ?_
  refine k_aload hR 0 rfl rfl dX8_init_44 ?_
  refine k_bipush hR (nI 36) (by decide) dX8_init_45 ?_
  refine k_newi hR 6 rfl rfl (by decide) (by decide) (by decide) dX8_init_47 ?_
  refine k_putF hR 0 [.inr (8, [.ref (gb G + (n + 1)), .ref (gb G + (n + 2)), .ref (gb G + (n + 3)), .int 0, .ref (gb G + (n + 4)), .ref (gb G + (n + 5)), .ref (gb G + (n + 6)), .null, .int 0, .int 0, .int 0, .int 0, .int 0, .int 0, .null, .null, .null]), .inl (gcI G, 43, .inl (fun _ => 0)), .inl (gcI G, 43, .inl (fun _ => 0)), .inl (gcI G, 43, .inl (fun _ => 0)), .inl (gcI G, 7, .inl (fun _ => 0)), .inl (gcI G, 36, .inl (fun _ => 0)), .inl (gcI G, 36, .inl (fun _ => 0))] rfl ff_X8_25 rfl rfl (Nat.le_of_ble_eq_true rfl) rfl dX8_init_49 ?_
  refine k_aload hR 0 rfl rfl dX8_init_52 ?_
  refine k_bipush hR (nI 120) (by decide) dX8_init_53 ?_
  refine k_newi hR 7 rfl rfl (by decide) (by decide) (by decide) dX8_init_55 ?_
  refine k_putF hR 0 [.inr (8, [.ref (gb G + (n + 1)), .ref (gb G + (n + 2)), .ref (gb G + (n + 3)), .int 0, .ref (gb G + (n + 4)), .ref (gb G + (n + 5)), .ref (gb G + (n + 6)), .ref (gb G + (n + 7)), .int 0, .int 0, .int 0, .int 0, .int 0, .int 0, .null, .null, .null]), .inl (gcI G, 43, .inl (fun _ => 0)), .inl (gcI G, 43, .inl (fun _ => 0)), .inl (gcI G, 43, .inl (fun _ => 0)), .inl (gcI G, 7, .inl (fun _ => 0)), .inl (gcI G, 36, .inl (fun _ => 0)), .inl (gcI G, 36, .inl (fun _ => 0)), .inl (gcI G, 120, .inl (fun _ => 0))] rfl ff_X8_28 rfl rfl (Nat.le_of_ble_eq_true rfl) rfl dX8_init_57 ?_
  refine k_aload hR 0 rfl rfl dX8_init_60 ?_
  refine k_iconst hR (nI 4) (by decide) dX8_init_61 ?_
  refine k_newi hR 8 rfl rfl (by decide) (by decide) (by decide) dX8_init_62 ?_
  refine k_putF hR 0 [.inr (8, [.ref (gb G + (n + 1)), .ref (gb G + (n + 2)), .ref (gb G + (n + 3)), .int 0, .ref (gb G + (n + 4)), .ref (gb G + (n + 5)), .ref (gb G + (n + 6)), .ref (gb G + (n + 7)), .int 0, .int 0, .int 0, .int 0, .int 0, .int 0, .ref (gb G + (n + 8)), .null, .null]), .inl (gcI G, 43, .inl (fun _ => 0)), .inl (gcI G, 43, .inl (fun _ => 0)), .inl (gcI G, 43, .inl (fun _ => 0)), .inl (gcI G, 7, .inl (fun _ => 0)), .inl (gcI G, 36, .inl (fun _ => 0)), .inl (gcI G, 36, .inl (fun _ => 0)), .inl (gcI G, 120, .inl (fun _ => 0)), .inl (gcI G, 4, .inl (fun _ => 0))] rfl ff_X8_31 rfl rfl (Nat.le_of_ble_eq_true rfl) rfl dX8_init_64 ?_
  refine k_aload hR 0 rfl rfl dX8_init_67 ?_
  refine k_iconst hR (nI 4) (by decide) dX8_init_68 ?_
  refine k_newi hR 9 rfl rfl (by decide) (by decide) (by decide) dX8_init_69 ?_
  refine k_putF hR 0 [.inr (8, [.ref (gb G + (n + 1)), .ref (gb G + (n + 2)), .ref (gb G + (n + 3)), .int 0, .ref (gb G + (n + 4)), .ref (gb G + (n + 5)), .ref (gb G + (n + 6)), .ref (gb G + (n + 7)), .int 0, .int 0, .int 0, .int 0, .int 0, .int 0, .ref (gb G + (n + 8)), .ref (gb G + (n + 9)), .null]), .inl (gcI G, 43, .inl (fun _ => 0)), .inl (gcI G, 43, .inl (fun _ => 0)), .inl (gcI G, 43, .inl (fun _ => 0)), .inl (gcI G, 7, .inl (fun _ => 0)), .inl (gcI G, 36, .inl (fun _ => 0)), .inl (gcI G, 36, .inl (fun _ => 0)), .inl (gcI G, 120, .inl (fun _ => 0)), .inl (gcI G, 4, .inl (fun _ => 0)), .inl (gcI G, 4, .inl (fun _ => 0))] rfl ff_X8_34 rfl rfl (Nat.le_of_ble_eq_true rfl) rfl dX8_init_71 ?_
  refine k_aload hR 0 rfl rfl dX8_init_74 ?_
  refine k_sipush hR (nI 160) (by decide) dX8_init_75 ?_
  refine k_newl hR 10 rfl rfl (by decide) (by decide) (by decide) dX8_init_78 ?_
  refine k_putF hR 0 [.inr (8, [.ref (gb G + (n + 1)), .ref (gb G + (n + 2)), .ref (gb G + (n + 3)), .int 0, .ref (gb G + (n + 4)), .ref (gb G + (n + 5)), .ref (gb G + (n + 6)), .ref (gb G + (n + 7)), .int 0, .int 0, .int 0, .int 0, .int 0, .int 0, .ref (gb G + (n + 8)), .ref (gb G + (n + 9)), .ref (gb G + (n + 10))]), .inl (gcI G, 43, .inl (fun _ => 0)), .inl (gcI G, 43, .inl (fun _ => 0)), .inl (gcI G, 43, .inl (fun _ => 0)), .inl (gcI G, 7, .inl (fun _ => 0)), .inl (gcI G, 36, .inl (fun _ => 0)), .inl (gcI G, 36, .inl (fun _ => 0)), .inl (gcI G, 120, .inl (fun _ => 0)), .inl (gcI G, 4, .inl (fun _ => 0)), .inl (gcI G, 4, .inl (fun _ => 0)), .inl (gcL G, 160, .inr (.inl (fun _ => 0)))] rfl ff_X8_37 rfl rfl (Nat.le_of_ble_eq_true rfl) rfl dX8_init_80 ?_
  refine k_aload hR 0 rfl rfl dX8_init_83 ?_
  refine k_get hR 0 rfl fl_X8_9 rfl dX8_init_84 ?_
  refine k_iconst hR (nI 1) (by decide) dX8_init_87 ?_
  refine k_iconst hR (nI 4) (by decide) dX8_init_88 ?_
  refine k_iast hR (i := 1) 1 [.inr (8, [.ref (gb G + (n + 1)), .ref (gb G + (n + 2)), .ref (gb G + (n + 3)), .int 0, .ref (gb G + (n + 4)), .ref (gb G + (n + 5)), .ref (gb G + (n + 6)), .ref (gb G + (n + 7)), .int 0, .int 0, .int 0, .int 0, .int 0, .int 0, .ref (gb G + (n + 8)), .ref (gb G + (n + 9)), .ref (gb G + (n + 10))]), .inl (gcI G, 43, .inl (upd (fun _ => 0) 1 (nI 4))), .inl (gcI G, 43, .inl (fun _ => 0)), .inl (gcI G, 43, .inl (fun _ => 0)), .inl (gcI G, 7, .inl (fun _ => 0)), .inl (gcI G, 36, .inl (fun _ => 0)), .inl (gcI G, 36, .inl (fun _ => 0)), .inl (gcI G, 120, .inl (fun _ => 0)), .inl (gcI G, 4, .inl (fun _ => 0)), .inl (gcI G, 4, .inl (fun _ => 0)), .inl (gcL G, 160, .inr (.inl (fun _ => 0)))] rfl rfl (by decide) (by decide) rfl dX8_init_89 ?_
  refine k_iconst hR (nI 0) (by decide) dX8_init_90 ?_
  refine k_istore hR 1 [some (.ref (gb G + (n + 0))), some (.int (nI 0))] rfl (by simp) (okSt_of1 (fun _ h => by cases h; rfl)) rfl dX8_init_91 ?_
  refine k_iload hR 1 rfl rfl dX8_init_92 ?_
  refine k_bipush hR (nI 7) (by decide) dX8_init_93 ?_
  refine k_ge_f hR 124 (by decide) dX8_init_95 (by decide) ?_
  refine k_aload hR 0 rfl rfl dX8_init_98 ?_
  refine k_get hR 0 rfl fl_X8_9 rfl dX8_init_99 ?_
  refine k_iconst hR (nI 4) (by decide) dX8_init_102 ?_
  refine k_iload hR 1 rfl rfl dX8_init_103 ?_
  refine k_iadd hR dX8_init_104 ?_
  refine k_iload hR 1 rfl rfl dX8_init_105 ?_
  refine k_bipush hR (nI 6) (by decide) dX8_init_106 ?_
  refine k_ne_t hR 116 (by decide) dX8_init_108 (by decide) ?_
  refine k_iload hR 1 rfl rfl dX8_init_116 ?_
  refine k_iast hR (i := 4) 1 [.inr (8, [.ref (gb G + (n + 1)), .ref (gb G + (n + 2)), .ref (gb G + (n + 3)), .int 0, .ref (gb G + (n + 4)), .ref (gb G + (n + 5)), .ref (gb G + (n + 6)), .ref (gb G + (n + 7)), .int 0, .int 0, .int 0, .int 0, .int 0, .int 0, .ref (gb G + (n + 8)), .ref (gb G + (n + 9)), .ref (gb G + (n + 10))]), .inl (gcI G, 43, .inl (upd (upd (fun _ => 0) 1 (nI 4)) 4 (nI 0))), .inl (gcI G, 43, .inl (fun _ => 0)), .inl (gcI G, 43, .inl (fun _ => 0)), .inl (gcI G, 7, .inl (fun _ => 0)), .inl (gcI G, 36, .inl (fun _ => 0)), .inl (gcI G, 36, .inl (fun _ => 0)), .inl (gcI G, 120, .inl (fun _ => 0)), .inl (gcI G, 4, .inl (fun _ => 0)), .inl (gcI G, 4, .inl (fun _ => 0)), .inl (gcL G, 160, .inr (.inl (fun _ => 0)))] rfl (by rw [nI_add]) (by decide) (by decide) rfl dX8_init_117 ?_
  refine k_iinc hR (nI 1) [some (.ref (gb G + (n + 0))), some (.int (nI 1))] (by simp) (okSt_of1 (fun _ h => by cases h; rfl)) rfl (by decide) (by rw [nI_add]; rfl) dX8_init_118 ?_
  refine k_goto hR 92 dX8_init_121 (by decide) ?_
  refine k_iload hR 1 rfl rfl dX8_init_92 ?_
  refine k_bipush hR (nI 7) (by decide) dX8_init_93 ?_
  refine k_ge_f hR 124 (by decide) dX8_init_95 (by decide) ?_
  refine k_aload hR 0 rfl rfl dX8_init_98 ?_
  refine k_get hR 0 rfl fl_X8_9 rfl dX8_init_99 ?_
  refine k_iconst hR (nI 4) (by decide) dX8_init_102 ?_
  refine k_iload hR 1 rfl rfl dX8_init_103 ?_
  refine k_iadd hR dX8_init_104 ?_
  refine k_iload hR 1 rfl rfl dX8_init_105 ?_
  refine k_bipush hR (nI 6) (by decide) dX8_init_106 ?_
  refine k_ne_t hR 116 (by decide) dX8_init_108 (by decide) ?_
  refine k_iload hR 1 rfl rfl dX8_init_116 ?_
  refine k_iast hR (i := 5) 1 [.inr (8, [.ref (gb G + (n + 1)), .ref (gb G + (n + 2)), .ref (gb G + (n + 3)), .int 0, .ref (gb G + (n + 4)), .ref (gb G + (n + 5)), .ref (gb G + (n + 6)), .ref (gb G + (n + 7)), .int 0, .int 0, .int 0, .int 0, .int 0, .int 0, .ref (gb G + (n + 8)), .ref (gb G + (n + 9)), .ref (gb G + (n + 10))]), .inl (gcI G, 43, .inl (upd (upd (upd (fun _ => 0) 1 (nI 4)) 4 (nI 0)) 5 (nI 1))), .inl (gcI G, 43, .inl (fun _ => 0)), .inl (gcI G, 43, .inl (fun _ => 0)), .inl (gcI G, 7, .inl (fun _ => 0)), .inl (gcI G, 36, .inl (fun _ => 0)), .inl (gcI G, 36, .inl (fun _ => 0)), .inl (gcI G, 120, .inl (fun _ => 0)), .inl (gcI G, 4, .inl (fun _ => 0)), .inl (gcI G, 4, .inl (fun _ => 0)), .inl (gcL G, 160, .inr (.inl (fun _ => 0)))] rfl (by rw [nI_add]) (by decide) (by decide) rfl dX8_init_117 ?_
  refine k_iinc hR (nI 1) [some (.ref (gb G + (n + 0))), some (.int (nI 2))] (by simp) (okSt_of1 (fun _ h => by cases h; rfl)) rfl (by decide) (by rw [nI_add]; rfl) dX8_init_118 ?_
  refine k_goto hR 92 dX8_init_121 (by decide) ?_
  refine k_iload hR 1 rfl rfl dX8_init_92 ?_
  refine k_bipush hR (nI 7) (by decide) dX8_init_93 ?_
  refine k_ge_f hR 124 (by decide) dX8_init_95 (by decide) ?_
  refine k_aload hR 0 rfl rfl dX8_init_98 ?_
  refine k_get hR 0 rfl fl_X8_9 rfl dX8_init_99 ?_
  refine k_iconst hR (nI 4) (by decide) dX8_init_102 ?_
  refine k_iload hR 1 rfl rfl dX8_init_103 ?_
  refine k_iadd hR dX8_init_104 ?_
  refine k_iload hR 1 rfl rfl dX8_init_105 ?_
  refine k_bipush hR (nI 6) (by decide) dX8_init_106 ?_
  refine k_ne_t hR 116 (by decide) dX8_init_108 (by decide) ?_
  refine k_iload hR 1 rfl rfl dX8_init_116 ?_
  refine k_iast hR (i := 6) 1 [.inr (8, [.ref (gb G + (n + 1)), .ref (gb G + (n + 2)), .ref (gb G + (n + 3)), .int 0, .ref (gb G + (n + 4)), .ref (gb G + (n + 5)), .ref (gb G + (n + 6)), .ref (gb G + (n + 7)), .int 0, .int 0, .int 0, .int 0, .int 0, .int 0, .ref (gb G + (n + 8)), .ref (gb G + (n + 9)), .ref (gb G + (n + 10))]), .inl (gcI G, 43, .inl (upd (upd (upd (upd (fun _ => 0) 1 (nI 4)) 4 (nI 0)) 5 (nI 1)) 6 (nI 2))), .inl (gcI G, 43, .inl (fun _ => 0)), .inl (gcI G, 43, .inl (fun _ => 0)), .inl (gcI G, 7, .inl (fun _ => 0)), .inl (gcI G, 36, .inl (fun _ => 0)), .inl (gcI G, 36, .inl (fun _ => 0)), .inl (gcI G, 120, .inl (fun _ => 0)), .inl (gcI G, 4, .inl (fun _ => 0)), .inl (gcI G, 4, .inl (fun _ => 0)), .inl (gcL G, 160, .inr (.inl (fun _ => 0)))] rfl (by rw [nI_add]) (by decide) (by decide) rfl dX8_init_117 ?_
  refine k_iinc hR (nI 1) [some (.ref (gb G + (n + 0))), some (.int (nI 3))] (by simp) (okSt_of1 (fun _ h => by cases h; rfl)) rfl (by decide) (by rw [nI_add]; rfl) dX8_init_118 ?_
  refine k_goto hR 92 dX8_init_121 (by decide) ?_
  refine k_iload hR 1 rfl rfl dX8_init_92 ?_
  refine k_bipush hR (nI 7) (by decide) dX8_init_93 ?_
  refine k_ge_f hR 124 (by decide) dX8_init_95 (by decide) ?_
  refine k_aload hR 0 rfl rfl dX8_init_98 ?_
  refine k_get hR 0 rfl fl_X8_9 rfl dX8_init_99 ?_
  refine k_iconst hR (nI 4) (by decide) dX8_init_102 ?_
  refine k_iload hR 1 rfl rfl dX8_init_103 ?_
  refine k_iadd hR dX8_init_104 ?_
  refine k_iload hR 1 rfl rfl dX8_init_105 ?_
  refine k_bipush hR (nI 6) (by decide) dX8_init_106 ?_
  refine k_ne_t hR 116 (by decide) dX8_init_108 (by decide) ?_
  refine k_iload hR 1 rfl rfl dX8_init_116 ?_
  refine k_iast hR (i := 7) 1 [.inr (8, [.ref (gb G + (n + 1)), .ref (gb G + (n + 2)), .ref (gb G + (n + 3)), .int 0, .ref (gb G + (n + 4)), .ref (gb G + (n + 5)), .ref (gb G + (n + 6)), .ref (gb G + (n + 7)), .int 0, .int 0, .int 0, .int 0, .int 0, .int 0, .ref (gb G + (n + 8)), .ref (gb G + (n + 9)), .ref (gb G + (n + 10))]), .inl (gcI G, 43, .inl (upd (upd (upd (upd (upd (fun _ => 0) 1 (nI 4)) 4 (nI 0)) 5 (nI 1)) 6 (nI 2)) 7 (nI 3))), .inl (gcI G, 43, .inl (fun _ => 0)), .inl (gcI G, 43, .inl (fun _ => 0)), .inl (gcI G, 7, .inl (fun _ => 0)), .inl (gcI G, 36, .inl (fun _ => 0)), .inl (gcI G, 36, .inl (fun _ => 0)), .inl (gcI G, 120, .inl (fun _ => 0)), .inl (gcI G, 4, .inl (fun _ => 0)), .inl (gcI G, 4, .inl (fun _ => 0)), .inl (gcL G, 160, .inr (.inl (fun _ => 0)))] rfl (by rw [nI_add]) (by decide) (by decide) rfl dX8_init_117 ?_
  refine k_iinc hR (nI 1) [some (.ref (gb G + (n + 0))), some (.int (nI 4))] (by simp) (okSt_of1 (fun _ h => by cases h; rfl)) rfl (by decide) (by rw [nI_add]; rfl) dX8_init_118 ?_
  refine k_goto hR 92 dX8_init_121 (by decide) ?_
  refine k_iload hR 1 rfl rfl dX8_init_92 ?_
  refine k_bipush hR (nI 7) (by decide) dX8_init_93 ?_
  refine k_ge_f hR 124 (by decide) dX8_init_95 (by decide) ?_
  refine k_aload hR 0 rfl rfl dX8_init_98 ?_
  refine k_get hR 0 rfl fl_X8_9 rfl dX8_init_99 ?_
  refine k_iconst hR (nI 4) (by decide) dX8_init_102 ?_
  refine k_iload hR 1 rfl rfl dX8_init_103 ?_
  refine k_iadd hR dX8_init_104 ?_
  refine k_iload hR 1 rfl rfl dX8_init_105 ?_
  refine k_bipush hR (nI 6) (by decide) dX8_init_106 ?_
  refine k_ne_t hR 116 (by decide) dX8_init_108 (by decide) ?_
  refine k_iload hR 1 rfl rfl dX8_init_116 ?_
  refine k_iast hR (i := 8) 1 [.inr (8, [.ref (gb G + (n + 1)), .ref (gb G + (n + 2)), .ref (gb G + (n + 3)), .int 0, .ref (gb G + (n + 4)), .ref (gb G + (n + 5)), .ref (gb G + (n + 6)), .ref (gb G + (n + 7)), .int 0, .int 0, .int 0, .int 0, .int 0, .int 0, .ref (gb G + (n + 8)), .ref (gb G + (n + 9)), .ref (gb G + (n + 10))]), .inl (gcI G, 43, .inl (upd (upd (upd (upd (upd (upd (fun _ => 0) 1 (nI 4)) 4 (nI 0)) 5 (nI 1)) 6 (nI 2)) 7 (nI 3)) 8 (nI 4))), .inl (gcI G, 43, .inl (fun _ => 0)), .inl (gcI G, 43, .inl (fun _ => 0)), .inl (gcI G, 7, .inl (fun _ => 0)), .inl (gcI G, 36, .inl (fun _ => 0)), .inl (gcI G, 36, .inl (fun _ => 0)), .inl (gcI G, 120, .inl (fun _ => 0)), .inl (gcI G, 4, .inl (fun _ => 0)), .inl (gcI G, 4, .inl (fun _ => 0)), .inl (gcL G, 160, .inr (.inl (fun _ => 0)))] rfl (by rw [nI_add]) (by decide) (by decide) rfl dX8_init_117 ?_
  refine k_iinc hR (nI 1) [some (.ref (gb G + (n + 0))), some (.int (nI 5))] (by simp) (okSt_of1 (fun _ h => by cases h; rfl)) rfl (by decide) (by rw [nI_add]; rfl) dX8_init_118 ?_
  refine k_goto hR 92 dX8_init_121 (by decide) ?_
  refine k_iload hR 1 rfl rfl dX8_init_92 ?_
  refine k_bipush hR (nI 7) (by decide) dX8_init_93 ?_
  refine k_ge_f hR 124 (by decide) dX8_init_95 (by decide) ?_
  refine k_aload hR 0 rfl rfl dX8_init_98 ?_
  refine k_get hR 0 rfl fl_X8_9 rfl dX8_init_99 ?_
  refine k_iconst hR (nI 4) (by decide) dX8_init_102 ?_
  refine k_iload hR 1 rfl rfl dX8_init_103 ?_
  refine k_iadd hR dX8_init_104 ?_
  refine k_iload hR 1 rfl rfl dX8_init_105 ?_
  refine k_bipush hR (nI 6) (by decide) dX8_init_106 ?_
  refine k_ne_t hR 116 (by decide) dX8_init_108 (by decide) ?_
  refine k_iload hR 1 rfl rfl dX8_init_116 ?_
  refine k_iast hR (i := 9) 1 [.inr (8, [.ref (gb G + (n + 1)), .ref (gb G + (n + 2)), .ref (gb G + (n + 3)), .int 0, .ref (gb G + (n + 4)), .ref (gb G + (n + 5)), .ref (gb G + (n + 6)), .ref (gb G + (n + 7)), .int 0, .int 0, .int 0, .int 0, .int 0, .int 0, .ref (gb G + (n + 8)), .ref (gb G + (n + 9)), .ref (gb G + (n + 10))]), .inl (gcI G, 43, .inl (upd (upd (upd (upd (upd (upd (upd (fun _ => 0) 1 (nI 4)) 4 (nI 0)) 5 (nI 1)) 6 (nI 2)) 7 (nI 3)) 8 (nI 4)) 9 (nI 5))), .inl (gcI G, 43, .inl (fun _ => 0)), .inl (gcI G, 43, .inl (fun _ => 0)), .inl (gcI G, 7, .inl (fun _ => 0)), .inl (gcI G, 36, .inl (fun _ => 0)), .inl (gcI G, 36, .inl (fun _ => 0)), .inl (gcI G, 120, .inl (fun _ => 0)), .inl (gcI G, 4, .inl (fun _ => 0)), .inl (gcI G, 4, .inl (fun _ => 0)), .inl (gcL G, 160, .inr (.inl (fun _ => 0)))] rfl (by rw [nI_add]) (by decide) (by decide) rfl dX8_init_117 ?_
  refine k_iinc hR (nI 1) [some (.ref (gb G + (n + 0))), some (.int (nI 6))] (by simp) (okSt_of1 (fun _ h => by cases h; rfl)) rfl (by decide) (by rw [nI_add]; rfl) dX8_init_118 ?_
  refine k_goto hR 92 dX8_init_121 (by decide) ?_
  refine k_iload hR 1 rfl rfl dX8_init_92 ?_
  refine k_bipush hR (nI 7) (by decide) dX8_init_93 ?_
  refine k_ge_f hR 124 (by decide) dX8_init_95 (by decide) ?_
  refine k_aload hR 0 rfl rfl dX8_init_98 ?_
  refine k_get hR 0 rfl fl_X8_9 rfl dX8_init_99 ?_
  refine k_iconst hR (nI 4) (by decide) dX8_init_102 ?_
  refine k_iload hR 1 rfl rfl dX8_init_103 ?_
  refine k_iadd hR dX8_init_104 ?_
  refine k_iload hR 1 rfl rfl dX8_init_105 ?_
  refine k_bipush hR (nI 6) (by decide) dX8_init_106 ?_
  refine k_ne_f hR 116 (by decide) dX8_init_108 (by decide) ?_
  refine k_bipush hR (nI 8) (by decide) dX8_init_111 ?_
  refine k_goto hR 117 dX8_init_113 (by decide) ?_
  refine k_iast hR (i := 10) 1 [.inr (8, [.ref (gb G + (n + 1)), .ref (gb G + (n + 2)), .ref (gb G + (n + 3)), .int 0, .ref (gb G + (n + 4)), .ref (gb G + (n + 5)), .ref (gb G + (n + 6)), .ref (gb G + (n + 7)), .int 0, .int 0, .int 0, .int 0, .int 0, .int 0, .ref (gb G + (n + 8)), .ref (gb G + (n + 9)), .ref (gb G + (n + 10))]), .inl (gcI G, 43, .inl (upd (upd (upd (upd (upd (upd (upd (upd (fun _ => 0) 1 (nI 4)) 4 (nI 0)) 5 (nI 1)) 6 (nI 2)) 7 (nI 3)) 8 (nI 4)) 9 (nI 5)) 10 (nI 8))), .inl (gcI G, 43, .inl (fun _ => 0)), .inl (gcI G, 43, .inl (fun _ => 0)), .inl (gcI G, 7, .inl (fun _ => 0)), .inl (gcI G, 36, .inl (fun _ => 0)), .inl (gcI G, 36, .inl (fun _ => 0)), .inl (gcI G, 120, .inl (fun _ => 0)), .inl (gcI G, 4, .inl (fun _ => 0)), .inl (gcI G, 4, .inl (fun _ => 0)), .inl (gcL G, 160, .inr (.inl (fun _ => 0)))] rfl (by rw [nI_add]) (by decide) (by decide) rfl dX8_init_117 ?_
  refine k_iinc hR (nI 1) [some (.ref (gb G + (n + 0))), some (.int (nI 7))] (by simp) (okSt_of1 (fun _ h => by cases h; rfl)) rfl (by decide) (by rw [nI_add]; rfl) dX8_init_118 ?_
  refine k_goto hR 92 dX8_init_121 (by decide) ?_
  refine k_iload hR 1 rfl rfl dX8_init_92 ?_
  refine k_bipush hR (nI 7) (by decide) dX8_init_93 ?_
  refine k_ge_t hR 124 (by decide) dX8_init_95 (by decide) ?_
  exact hret _ _ dX8_init_124
