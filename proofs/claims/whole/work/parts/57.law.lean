/-! THE LAW: its cases and its loop -/
def LwC (G : gG) (b L : Nat) (xs : Nat → Int32) (P : gP) : Prop := Bd G cL_law RL 4 13 (some .boolean) (fun v _ => v = some (.int 1)) P ∧ (∀ (pc : Nat) (ls : List (Option Value)) (st : List Value) (M : gM) (j : Nat), decode cL_law pc = .ok (.iaload, 1) → j < L → P (pc + 1) ls (.int (xs j) :: st) M → P pc ls (.int (nI j) :: .ref b :: st) M) ∧ ∀ (pc : Nat) (ls : List (Option Value)) (st : List Value) (M : gM), decode cL_law pc = .ok (.arraylength, 1) → P (pc + 1) ls (.int (nI L) :: st) M → P pc ls (.ref b :: st) M
set_option maxHeartbeats 4000000 in
set_option maxRecDepth 100000 in
theorem l_rota {G : gG} {b L : Nat} {xs : Nat → Int32} {P : gP} (hC : LwC G b L xs P) {i : Nat} {M : gM} {A : gA} (hi : i + 6 ≤ L) (hc : clsP M A) (hm : mdlP M A) (hw : wfA A) (k : ∀ (M' : gM) (A' : gA), clsP M' A' → mdlP M' A' → wfA A' → P 1440 [some (.ref b), some (.ref (ad G 0 0)), some (.ref (ad G 15 0)), some (.int (nI i))] [] M') : P 208 [some (.ref b), some (.ref (ad G 0 0)), some (.ref (ad G 15 0)), some (.int (nI i))] [] M := by
  have hR := hC.1
  refine r_aload1 hR dL_law_208 ?_
  refine r_aload0 hR dL_law_209 ?_
  refine r_iload3 hR dL_law_210 ?_
  refine r_iconst hR (nI 1) (by decide) dL_law_211 ?_
  refine r_iadd hR dL_law_212 ?_
  try rw [nI_add]
  refine hC.2.1 _ _ _ _ (i + 1) dL_law_213 (by omega) ?_
  refine r_aload0 hR dL_law_214 ?_
  refine r_iload3 hR dL_law_215 ?_
  refine r_iconst hR (nI 2) (by decide) dL_law_216 ?_
  refine r_iadd hR dL_law_217 ?_
  try rw [nI_add]
  refine hC.2.1 _ _ _ _ (i + 2) dL_law_218 (by omega) ?_
  refine g_callV hR (As := [.int (xs (i + 1)), .int (xs (i + 2))]) (st := []) kv_L_13 (by decide) rfl (t_X7_rota hc hw) (fun s H locs q1 q2 q3 => g_recv q1 q2 (by decide) rfl rfl) rfl (Nat.le_of_ble_eq_true rfl) dL_law_219 (fun v M1 hq => ?_)
  obtain ⟨rfl, hc1, hk1⟩ := hq
  show P _ _ [.int (oRota A (xs (i + 1)) (xs (i + 2))).1] M1
  refine r_aload2 hR dL_law_222 ?_
  refine r_aload0 hR dL_law_223 ?_
  refine r_iload3 hR dL_law_224 ?_
  refine r_iconst hR (nI 1) (by decide) dL_law_225 ?_
  refine r_iadd hR dL_law_226 ?_
  try rw [nI_add]
  refine hC.2.1 _ _ _ _ (i + 1) dL_law_227 (by omega) ?_
  refine r_aload0 hR dL_law_228 ?_
  refine r_iload3 hR dL_law_229 ?_
  refine r_iconst hR (nI 2) (by decide) dL_law_230 ?_
  refine r_iadd hR dL_law_231 ?_
  try rw [nI_add]
  refine hC.2.1 _ _ _ _ (i + 2) dL_law_232 (by omega) ?_
  refine g_callV hR (As := [.int (xs (i + 1)), .int (xs (i + 2))]) (st := [.int (oRota A (xs (i + 1)) (xs (i + 2))).1]) kv_L_17 (by decide) rfl (t_X8_rota (mdlP_keepM hk1 hm) hw) (fun s H locs q1 q2 q3 => g_recv q1 q2 (by decide) rfl rfl) rfl (Nat.le_of_ble_eq_true rfl) dL_law_233 (fun v M2 hq => ?_)
  obtain ⟨rfl, hm2, hk2⟩ := hq
  show P _ _ [.int (oRota A (xs (i + 1)) (xs (i + 2))).1, .int (oRota A (xs (i + 1)) (xs (i + 2))).1] M2
  refine r_icmp_eq hR 1440 dL_law_236 (by decide) (fun c236 => ?_) (fun c236 => absurd rfl c236)
  exact k M2 (oRota A (xs (i + 1)) (xs (i + 2))).2 (clsP_keepC hk2 hc1) hm2 (w_Rota hw)
set_option maxHeartbeats 4000000 in
set_option maxRecDepth 100000 in
theorem l_rotaOf {G : gG} {b L : Nat} {xs : Nat → Int32} {P : gP} (hC : LwC G b L xs P) {i : Nat} {M : gM} {A : gA} (hi : i + 6 ≤ L) (hc : clsP M A) (hm : mdlP M A) (hw : wfA A) (k : ∀ (M' : gM) (A' : gA), clsP M' A' → mdlP M' A' → wfA A' → P 1440 [some (.ref b), some (.ref (ad G 0 0)), some (.ref (ad G 15 0)), some (.int (nI i))] [] M') : P 241 [some (.ref b), some (.ref (ad G 0 0)), some (.ref (ad G 15 0)), some (.int (nI i))] [] M := by
  have hR := hC.1
  refine r_aload1 hR dL_law_241 ?_
  refine r_aload0 hR dL_law_242 ?_
  refine r_iload3 hR dL_law_243 ?_
  refine r_iconst hR (nI 1) (by decide) dL_law_244 ?_
  refine r_iadd hR dL_law_245 ?_
  try rw [nI_add]
  refine hC.2.1 _ _ _ _ (i + 1) dL_law_246 (by omega) ?_
  refine g_callV hR (As := [.int (xs (i + 1))]) (st := []) kv_L_18 (by decide) rfl (t_X7_rotaOf hc hw) (fun s H locs q1 q2 q3 => g_recv q1 q2 (by decide) rfl rfl) rfl (Nat.le_of_ble_eq_true rfl) dL_law_247 (fun v M1 hq => ?_)
  obtain ⟨rfl, hc1, hk1⟩ := hq
  show P _ _ [.int (oRotaOf A (xs (i + 1))).1] M1
  refine r_aload2 hR dL_law_250 ?_
  refine r_aload0 hR dL_law_251 ?_
  refine r_iload3 hR dL_law_252 ?_
  refine r_iconst hR (nI 1) (by decide) dL_law_253 ?_
  refine r_iadd hR dL_law_254 ?_
  try rw [nI_add]
  refine hC.2.1 _ _ _ _ (i + 1) dL_law_255 (by omega) ?_
  refine g_callV hR (As := [.int (xs (i + 1))]) (st := [.int (oRotaOf A (xs (i + 1))).1]) kv_L_22 (by decide) rfl (t_X8_rotaOf (mdlP_keepM hk1 hm) hw) (fun s H locs q1 q2 q3 => g_recv q1 q2 (by decide) rfl rfl) rfl (Nat.le_of_ble_eq_true rfl) dL_law_256 (fun v M2 hq => ?_)
  obtain ⟨rfl, hm2, hk2⟩ := hq
  show P _ _ [.int (oRotaOf A (xs (i + 1))).1, .int (oRotaOf A (xs (i + 1))).1] M2
  refine r_icmp_eq hR 1440 dL_law_259 (by decide) (fun c259 => ?_) (fun c259 => absurd rfl c259)
  exact k M2 (oRotaOf A (xs (i + 1))).2 (clsP_keepC hk2 hc1) hm2 (w_RotaOf hw)
set_option maxHeartbeats 4000000 in
set_option maxRecDepth 100000 in
theorem l_sick {G : gG} {b L : Nat} {xs : Nat → Int32} {P : gP} (hC : LwC G b L xs P) {i : Nat} {M : gM} {A : gA} (hi : i + 6 ≤ L) (hc : clsP M A) (hm : mdlP M A) (hw : wfA A) (k : ∀ (M' : gM) (A' : gA), clsP M' A' → mdlP M' A' → wfA A' → P 1440 [some (.ref b), some (.ref (ad G 0 0)), some (.ref (ad G 15 0)), some (.int (nI i))] [] M') : P 264 [some (.ref b), some (.ref (ad G 0 0)), some (.ref (ad G 15 0)), some (.int (nI i))] [] M := by
  have hR := hC.1
  refine r_aload1 hR dL_law_264 ?_
  refine r_aload0 hR dL_law_265 ?_
  refine r_iload3 hR dL_law_266 ?_
  refine r_iconst hR (nI 1) (by decide) dL_law_267 ?_
  refine r_iadd hR dL_law_268 ?_
  try rw [nI_add]
  refine hC.2.1 _ _ _ _ (i + 1) dL_law_269 (by omega) ?_
  refine r_aload0 hR dL_law_270 ?_
  refine r_iload3 hR dL_law_271 ?_
  refine r_iconst hR (nI 2) (by decide) dL_law_272 ?_
  refine r_iadd hR dL_law_273 ?_
  try rw [nI_add]
  refine hC.2.1 _ _ _ _ (i + 2) dL_law_274 (by omega) ?_
  refine g_callV hR (As := [.int (xs (i + 1)), .int (xs (i + 2))]) (st := []) kv_L_23 (by decide) rfl (t_X7_sick hc hw) (fun s H locs q1 q2 q3 => g_recv q1 q2 (by decide) rfl rfl) rfl (Nat.le_of_ble_eq_true rfl) dL_law_275 (fun v M1 hq => ?_)
  obtain ⟨rfl, hc1, hk1⟩ := hq
  show P _ _ [.int (oSick A (xs (i + 1)) (xs (i + 2))).1] M1
  refine r_aload2 hR dL_law_278 ?_
  refine r_aload0 hR dL_law_279 ?_
  refine r_iload3 hR dL_law_280 ?_
  refine r_iconst hR (nI 1) (by decide) dL_law_281 ?_
  refine r_iadd hR dL_law_282 ?_
  try rw [nI_add]
  refine hC.2.1 _ _ _ _ (i + 1) dL_law_283 (by omega) ?_
  refine r_aload0 hR dL_law_284 ?_
  refine r_iload3 hR dL_law_285 ?_
  refine r_iconst hR (nI 2) (by decide) dL_law_286 ?_
  refine r_iadd hR dL_law_287 ?_
  try rw [nI_add]
  refine hC.2.1 _ _ _ _ (i + 2) dL_law_288 (by omega) ?_
  refine g_callV hR (As := [.int (xs (i + 1)), .int (xs (i + 2))]) (st := [.int (oSick A (xs (i + 1)) (xs (i + 2))).1]) kv_L_26 (by decide) rfl (t_X8_sick (mdlP_keepM hk1 hm) hw) (fun s H locs q1 q2 q3 => g_recv q1 q2 (by decide) rfl rfl) rfl (Nat.le_of_ble_eq_true rfl) dL_law_289 (fun v M2 hq => ?_)
  obtain ⟨rfl, hm2, hk2⟩ := hq
  show P _ _ [.int (oSick A (xs (i + 1)) (xs (i + 2))).1, .int (oSick A (xs (i + 1)) (xs (i + 2))).1] M2
  refine r_icmp_eq hR 1440 dL_law_292 (by decide) (fun c292 => ?_) (fun c292 => absurd rfl c292)
  exact k M2 (oSick A (xs (i + 1)) (xs (i + 2))).2 (clsP_keepC hk2 hc1) hm2 (w_Sick hw)
set_option maxHeartbeats 4000000 in
set_option maxRecDepth 100000 in
theorem l_force {G : gG} {b L : Nat} {xs : Nat → Int32} {P : gP} (hC : LwC G b L xs P) {i : Nat} {M : gM} {A : gA} (hi : i + 6 ≤ L) (hc : clsP M A) (hm : mdlP M A) (hw : wfA A) (k : ∀ (M' : gM) (A' : gA), clsP M' A' → mdlP M' A' → wfA A' → P 1440 [some (.ref b), some (.ref (ad G 0 0)), some (.ref (ad G 15 0)), some (.int (nI i))] [] M') : P 297 [some (.ref b), some (.ref (ad G 0 0)), some (.ref (ad G 15 0)), some (.int (nI i))] [] M := by
  have hR := hC.1
  refine r_aload1 hR dL_law_297 ?_
  refine r_aload0 hR dL_law_298 ?_
  refine r_iload3 hR dL_law_299 ?_
  refine r_iconst hR (nI 1) (by decide) dL_law_300 ?_
  refine r_iadd hR dL_law_301 ?_
  try rw [nI_add]
  refine hC.2.1 _ _ _ _ (i + 1) dL_law_302 (by omega) ?_
  refine g_callV hR (As := [.int (xs (i + 1))]) (st := []) kv_L_27 (by decide) rfl (t_X7_force hc hw) (fun s H locs q1 q2 q3 => g_recv q1 q2 (by decide) rfl rfl) rfl (Nat.le_of_ble_eq_true rfl) dL_law_303 (fun v M1 hq => ?_)
  obtain ⟨rfl, hc1, hk1⟩ := hq
  show P _ _ [.int (oForce A (xs (i + 1))).1] M1
  refine r_aload2 hR dL_law_306 ?_
  refine r_aload0 hR dL_law_307 ?_
  refine r_iload3 hR dL_law_308 ?_
  refine r_iconst hR (nI 1) (by decide) dL_law_309 ?_
  refine r_iadd hR dL_law_310 ?_
  try rw [nI_add]
  refine hC.2.1 _ _ _ _ (i + 1) dL_law_311 (by omega) ?_
  refine g_callV hR (As := [.int (xs (i + 1))]) (st := [.int (oForce A (xs (i + 1))).1]) kv_L_30 (by decide) rfl (t_X8_force (mdlP_keepM hk1 hm) hw) (fun s H locs q1 q2 q3 => g_recv q1 q2 (by decide) rfl rfl) rfl (Nat.le_of_ble_eq_true rfl) dL_law_312 (fun v M2 hq => ?_)
  obtain ⟨rfl, hm2, hk2⟩ := hq
  show P _ _ [.int (oForce A (xs (i + 1))).1, .int (oForce A (xs (i + 1))).1] M2
  refine r_icmp_eq hR 1440 dL_law_315 (by decide) (fun c315 => ?_) (fun c315 => absurd rfl c315)
  exact k M2 (oForce A (xs (i + 1))).2 (clsP_keepC hk2 hc1) hm2 (w_Force hw)
set_option maxHeartbeats 4000000 in
set_option maxRecDepth 100000 in
theorem l_blows {G : gG} {b L : Nat} {xs : Nat → Int32} {P : gP} (hC : LwC G b L xs P) {i : Nat} {M : gM} {A : gA} (hi : i + 6 ≤ L) (hc : clsP M A) (hm : mdlP M A) (hw : wfA A) (k : ∀ (M' : gM) (A' : gA), clsP M' A' → mdlP M' A' → wfA A' → P 1440 [some (.ref b), some (.ref (ad G 0 0)), some (.ref (ad G 15 0)), some (.int (nI i))] [] M') : P 320 [some (.ref b), some (.ref (ad G 0 0)), some (.ref (ad G 15 0)), some (.int (nI i))] [] M := by
  have hR := hC.1
  refine r_aload1 hR dL_law_320 ?_
  refine r_aload0 hR dL_law_321 ?_
  refine r_iload3 hR dL_law_322 ?_
  refine r_iconst hR (nI 1) (by decide) dL_law_323 ?_
  refine r_iadd hR dL_law_324 ?_
  try rw [nI_add]
  refine hC.2.1 _ _ _ _ (i + 1) dL_law_325 (by omega) ?_
  refine g_callV hR (As := [.int (xs (i + 1))]) (st := []) kv_L_31 (by decide) rfl (t_X7_blows hc hw) (fun s H locs q1 q2 q3 => g_recv q1 q2 (by decide) rfl rfl) rfl (Nat.le_of_ble_eq_true rfl) dL_law_326 (fun v M1 hq => ?_)
  obtain ⟨rfl, hc1, hk1⟩ := hq
  show P _ _ [.int (oBlows A (xs (i + 1))).1] M1
  refine r_aload2 hR dL_law_329 ?_
  refine r_aload0 hR dL_law_330 ?_
  refine r_iload3 hR dL_law_331 ?_
  refine r_iconst hR (nI 1) (by decide) dL_law_332 ?_
  refine r_iadd hR dL_law_333 ?_
  try rw [nI_add]
  refine hC.2.1 _ _ _ _ (i + 1) dL_law_334 (by omega) ?_
  refine g_callV hR (As := [.int (xs (i + 1))]) (st := [.int (oBlows A (xs (i + 1))).1]) kv_L_34 (by decide) rfl (t_X8_blows (mdlP_keepM hk1 hm) hw) (fun s H locs q1 q2 q3 => g_recv q1 q2 (by decide) rfl rfl) rfl (Nat.le_of_ble_eq_true rfl) dL_law_335 (fun v M2 hq => ?_)
  obtain ⟨rfl, hm2, hk2⟩ := hq
  show P _ _ [.int (oBlows A (xs (i + 1))).1, .int (oBlows A (xs (i + 1))).1] M2
  refine r_icmp_eq hR 1440 dL_law_338 (by decide) (fun c338 => ?_) (fun c338 => absurd rfl c338)
  exact k M2 (oBlows A (xs (i + 1))).2 (clsP_keepC hk2 hc1) hm2 (w_Blows hw)
set_option maxHeartbeats 4000000 in
set_option maxRecDepth 100000 in
theorem l_lee {G : gG} {b L : Nat} {xs : Nat → Int32} {P : gP} (hC : LwC G b L xs P) {i : Nat} {M : gM} {A : gA} (hi : i + 6 ≤ L) (hc : clsP M A) (hm : mdlP M A) (hw : wfA A) (k : ∀ (M' : gM) (A' : gA), clsP M' A' → mdlP M' A' → wfA A' → P 1440 [some (.ref b), some (.ref (ad G 0 0)), some (.ref (ad G 15 0)), some (.int (nI i))] [] M') : P 343 [some (.ref b), some (.ref (ad G 0 0)), some (.ref (ad G 15 0)), some (.int (nI i))] [] M := by
  have hR := hC.1
  refine r_aload1 hR dL_law_343 ?_
  refine r_aload0 hR dL_law_344 ?_
  refine r_iload3 hR dL_law_345 ?_
  refine r_iconst hR (nI 1) (by decide) dL_law_346 ?_
  refine r_iadd hR dL_law_347 ?_
  try rw [nI_add]
  refine hC.2.1 _ _ _ _ (i + 1) dL_law_348 (by omega) ?_
  refine r_aload0 hR dL_law_349 ?_
  refine r_iload3 hR dL_law_350 ?_
  refine r_iconst hR (nI 2) (by decide) dL_law_351 ?_
  refine r_iadd hR dL_law_352 ?_
  try rw [nI_add]
  refine hC.2.1 _ _ _ _ (i + 2) dL_law_353 (by omega) ?_
  refine g_callV hR (As := [.int (xs (i + 1)), .int (xs (i + 2))]) (st := []) kv_L_35 (by decide) rfl (t_X7_lee hc hw) (fun s H locs q1 q2 q3 => g_recv q1 q2 (by decide) rfl rfl) rfl (Nat.le_of_ble_eq_true rfl) dL_law_354 (fun v M1 hq => ?_)
  obtain ⟨rfl, hc1, hk1⟩ := hq
  show P _ _ [.int (oLee A (xs (i + 1)) (xs (i + 2))).1] M1
  refine r_aload2 hR dL_law_357 ?_
  refine r_aload0 hR dL_law_358 ?_
  refine r_iload3 hR dL_law_359 ?_
  refine r_iconst hR (nI 1) (by decide) dL_law_360 ?_
  refine r_iadd hR dL_law_361 ?_
  try rw [nI_add]
  refine hC.2.1 _ _ _ _ (i + 1) dL_law_362 (by omega) ?_
  refine r_aload0 hR dL_law_363 ?_
  refine r_iload3 hR dL_law_364 ?_
  refine r_iconst hR (nI 2) (by decide) dL_law_365 ?_
  refine r_iadd hR dL_law_366 ?_
  try rw [nI_add]
  refine hC.2.1 _ _ _ _ (i + 2) dL_law_367 (by omega) ?_
  refine g_callV hR (As := [.int (xs (i + 1)), .int (xs (i + 2))]) (st := [.int (oLee A (xs (i + 1)) (xs (i + 2))).1]) kv_L_38 (by decide) rfl (t_X8_lee (mdlP_keepM hk1 hm) hw) (fun s H locs q1 q2 q3 => g_recv q1 q2 (by decide) rfl rfl) rfl (Nat.le_of_ble_eq_true rfl) dL_law_368 (fun v M2 hq => ?_)
  obtain ⟨rfl, hm2, hk2⟩ := hq
  show P _ _ [.int (oLee A (xs (i + 1)) (xs (i + 2))).1, .int (oLee A (xs (i + 1)) (xs (i + 2))).1] M2
  refine r_icmp_eq hR 1440 dL_law_371 (by decide) (fun c371 => ?_) (fun c371 => absurd rfl c371)
  exact k M2 (oLee A (xs (i + 1)) (xs (i + 2))).2 (clsP_keepC hk2 hc1) hm2 (w_Lee hw)
set_option maxHeartbeats 4000000 in
set_option maxRecDepth 100000 in
theorem l_thing {G : gG} {b L : Nat} {xs : Nat → Int32} {P : gP} (hC : LwC G b L xs P) {i : Nat} {M : gM} {A : gA} (hi : i + 6 ≤ L) (hc : clsP M A) (hm : mdlP M A) (hw : wfA A) (k : ∀ (M' : gM) (A' : gA), clsP M' A' → mdlP M' A' → wfA A' → P 1440 [some (.ref b), some (.ref (ad G 0 0)), some (.ref (ad G 15 0)), some (.int (nI i))] [] M') : P 376 [some (.ref b), some (.ref (ad G 0 0)), some (.ref (ad G 15 0)), some (.int (nI i))] [] M := by
  have hR := hC.1
  refine r_aload1 hR dL_law_376 ?_
  refine r_aload0 hR dL_law_377 ?_
  refine r_iload3 hR dL_law_378 ?_
  refine r_iconst hR (nI 1) (by decide) dL_law_379 ?_
  refine r_iadd hR dL_law_380 ?_
  try rw [nI_add]
  refine hC.2.1 _ _ _ _ (i + 1) dL_law_381 (by omega) ?_
  refine r_aload0 hR dL_law_382 ?_
  refine r_iload3 hR dL_law_383 ?_
  refine r_iconst hR (nI 2) (by decide) dL_law_384 ?_
  refine r_iadd hR dL_law_385 ?_
  try rw [nI_add]
  refine hC.2.1 _ _ _ _ (i + 2) dL_law_386 (by omega) ?_
  refine g_callV hR (As := [.int (xs (i + 1)), .int (xs (i + 2))]) (st := []) kv_L_39 (by decide) rfl (t_X7_thing hc hw) (fun s H locs q1 q2 q3 => g_recv q1 q2 (by decide) rfl rfl) rfl (Nat.le_of_ble_eq_true rfl) dL_law_387 (fun v M1 hq => ?_)
  obtain ⟨rfl, hc1, hk1⟩ := hq
  show P _ _ [.int (oThing A (xs (i + 1)) (xs (i + 2))).1] M1
  refine r_aload2 hR dL_law_390 ?_
  refine r_aload0 hR dL_law_391 ?_
  refine r_iload3 hR dL_law_392 ?_
  refine r_iconst hR (nI 1) (by decide) dL_law_393 ?_
  refine r_iadd hR dL_law_394 ?_
  try rw [nI_add]
  refine hC.2.1 _ _ _ _ (i + 1) dL_law_395 (by omega) ?_
  refine r_aload0 hR dL_law_396 ?_
  refine r_iload3 hR dL_law_397 ?_
  refine r_iconst hR (nI 2) (by decide) dL_law_398 ?_
  refine r_iadd hR dL_law_399 ?_
  try rw [nI_add]
  refine hC.2.1 _ _ _ _ (i + 2) dL_law_400 (by omega) ?_
  refine g_callV hR (As := [.int (xs (i + 1)), .int (xs (i + 2))]) (st := [.int (oThing A (xs (i + 1)) (xs (i + 2))).1]) kv_L_42 (by decide) rfl (t_X8_thing (mdlP_keepM hk1 hm) hw) (fun s H locs q1 q2 q3 => g_recv q1 q2 (by decide) rfl rfl) rfl (Nat.le_of_ble_eq_true rfl) dL_law_401 (fun v M2 hq => ?_)
  obtain ⟨rfl, hm2, hk2⟩ := hq
  show P _ _ [.int (oThing A (xs (i + 1)) (xs (i + 2))).1, .int (oThing A (xs (i + 1)) (xs (i + 2))).1] M2
  refine r_icmp_eq hR 1440 dL_law_404 (by decide) (fun c404 => ?_) (fun c404 => absurd rfl c404)
  exact k M2 (oThing A (xs (i + 1)) (xs (i + 2))).2 (clsP_keepC hk2 hc1) hm2 (w_Thing hw)
set_option maxHeartbeats 4000000 in
set_option maxRecDepth 100000 in
theorem l_of {G : gG} {b L : Nat} {xs : Nat → Int32} {P : gP} (hC : LwC G b L xs P) {i : Nat} {M : gM} {A : gA} (hi : i + 6 ≤ L) (hc : clsP M A) (hm : mdlP M A) (hw : wfA A) (k : ∀ (M' : gM) (A' : gA), clsP M' A' → mdlP M' A' → wfA A' → P 1440 [some (.ref b), some (.ref (ad G 0 0)), some (.ref (ad G 15 0)), some (.int (nI i))] [] M') : P 409 [some (.ref b), some (.ref (ad G 0 0)), some (.ref (ad G 15 0)), some (.int (nI i))] [] M := by
  have hR := hC.1
  refine r_aload1 hR dL_law_409 ?_
  refine r_aload0 hR dL_law_410 ?_
  refine r_iload3 hR dL_law_411 ?_
  refine r_iconst hR (nI 1) (by decide) dL_law_412 ?_
  refine r_iadd hR dL_law_413 ?_
  try rw [nI_add]
  refine hC.2.1 _ _ _ _ (i + 1) dL_law_414 (by omega) ?_
  refine r_aload0 hR dL_law_415 ?_
  refine r_iload3 hR dL_law_416 ?_
  refine r_iconst hR (nI 2) (by decide) dL_law_417 ?_
  refine r_iadd hR dL_law_418 ?_
  try rw [nI_add]
  refine hC.2.1 _ _ _ _ (i + 2) dL_law_419 (by omega) ?_
  refine g_callV hR (As := [.int (xs (i + 1)), .int (xs (i + 2))]) (st := []) kv_L_43 (by decide) rfl (t_X7_of hc hw) (fun s H locs q1 q2 q3 => g_recv q1 q2 (by decide) rfl rfl) rfl (Nat.le_of_ble_eq_true rfl) dL_law_420 (fun v M1 hq => ?_)
  obtain ⟨rfl, hc1, hk1⟩ := hq
  show P _ _ [.int (oOf A (xs (i + 1)) (xs (i + 2))).1] M1
  refine r_aload2 hR dL_law_423 ?_
  refine r_aload0 hR dL_law_424 ?_
  refine r_iload3 hR dL_law_425 ?_
  refine r_iconst hR (nI 1) (by decide) dL_law_426 ?_
  refine r_iadd hR dL_law_427 ?_
  try rw [nI_add]
  refine hC.2.1 _ _ _ _ (i + 1) dL_law_428 (by omega) ?_
  refine r_aload0 hR dL_law_429 ?_
  refine r_iload3 hR dL_law_430 ?_
  refine r_iconst hR (nI 2) (by decide) dL_law_431 ?_
  refine r_iadd hR dL_law_432 ?_
  try rw [nI_add]
  refine hC.2.1 _ _ _ _ (i + 2) dL_law_433 (by omega) ?_
  refine g_callV hR (As := [.int (xs (i + 1)), .int (xs (i + 2))]) (st := [.int (oOf A (xs (i + 1)) (xs (i + 2))).1]) kv_L_46 (by decide) rfl (t_X8_of (mdlP_keepM hk1 hm) hw) (fun s H locs q1 q2 q3 => g_recv q1 q2 (by decide) rfl rfl) rfl (Nat.le_of_ble_eq_true rfl) dL_law_434 (fun v M2 hq => ?_)
  obtain ⟨rfl, hm2, hk2⟩ := hq
  show P _ _ [.int (oOf A (xs (i + 1)) (xs (i + 2))).1, .int (oOf A (xs (i + 1)) (xs (i + 2))).1] M2
  refine r_icmp_eq hR 1440 dL_law_437 (by decide) (fun c437 => ?_) (fun c437 => absurd rfl c437)
  exact k M2 (oOf A (xs (i + 1)) (xs (i + 2))).2 (clsP_keepC hk2 hc1) hm2 (w_Of hw)
set_option maxHeartbeats 4000000 in
set_option maxRecDepth 100000 in
theorem l_set {G : gG} {b L : Nat} {xs : Nat → Int32} {P : gP} (hC : LwC G b L xs P) {i : Nat} {M : gM} {A : gA} (hi : i + 6 ≤ L) (hc : clsP M A) (hm : mdlP M A) (hw : wfA A) (k : ∀ (M' : gM) (A' : gA), clsP M' A' → mdlP M' A' → wfA A' → P 1440 [some (.ref b), some (.ref (ad G 0 0)), some (.ref (ad G 15 0)), some (.int (nI i))] [] M') : P 442 [some (.ref b), some (.ref (ad G 0 0)), some (.ref (ad G 15 0)), some (.int (nI i))] [] M := by
  have hR := hC.1
  refine r_aload1 hR dL_law_442 ?_
  refine r_aload0 hR dL_law_443 ?_
  refine r_iload3 hR dL_law_444 ?_
  refine r_iconst hR (nI 1) (by decide) dL_law_445 ?_
  refine r_iadd hR dL_law_446 ?_
  try rw [nI_add]
  refine hC.2.1 _ _ _ _ (i + 1) dL_law_447 (by omega) ?_
  refine r_aload0 hR dL_law_448 ?_
  refine r_iload3 hR dL_law_449 ?_
  refine r_iconst hR (nI 2) (by decide) dL_law_450 ?_
  refine r_iadd hR dL_law_451 ?_
  try rw [nI_add]
  refine hC.2.1 _ _ _ _ (i + 2) dL_law_452 (by omega) ?_
  refine r_aload0 hR dL_law_453 ?_
  refine r_iload3 hR dL_law_454 ?_
  refine r_iconst hR (nI 3) (by decide) dL_law_455 ?_
  refine r_iadd hR dL_law_456 ?_
  try rw [nI_add]
  refine hC.2.1 _ _ _ _ (i + 3) dL_law_457 (by omega) ?_
  refine g_callV hR (As := [.int (xs (i + 1)), .int (xs (i + 2)), .int (xs (i + 3))]) (st := []) kv_L_47 (by decide) rfl (t_X7_set hc hw) (fun s H locs q1 q2 q3 => g_recv q1 q2 (by decide) rfl rfl) rfl (Nat.le_of_ble_eq_true rfl) dL_law_458 (fun v M1 hq => ?_)
  obtain ⟨rfl, hc1, hk1⟩ := hq
  show P _ _ [.int (oSet A (xs (i + 1)) (xs (i + 2)) (xs (i + 3))).1] M1
  refine r_aload2 hR dL_law_461 ?_
  refine r_aload0 hR dL_law_462 ?_
  refine r_iload3 hR dL_law_463 ?_
  refine r_iconst hR (nI 1) (by decide) dL_law_464 ?_
  refine r_iadd hR dL_law_465 ?_
  try rw [nI_add]
  refine hC.2.1 _ _ _ _ (i + 1) dL_law_466 (by omega) ?_
  refine r_aload0 hR dL_law_467 ?_
  refine r_iload3 hR dL_law_468 ?_
  refine r_iconst hR (nI 2) (by decide) dL_law_469 ?_
  refine r_iadd hR dL_law_470 ?_
  try rw [nI_add]
  refine hC.2.1 _ _ _ _ (i + 2) dL_law_471 (by omega) ?_
  refine r_aload0 hR dL_law_472 ?_
  refine r_iload3 hR dL_law_473 ?_
  refine r_iconst hR (nI 3) (by decide) dL_law_474 ?_
  refine r_iadd hR dL_law_475 ?_
  try rw [nI_add]
  refine hC.2.1 _ _ _ _ (i + 3) dL_law_476 (by omega) ?_
  refine g_callV hR (As := [.int (xs (i + 1)), .int (xs (i + 2)), .int (xs (i + 3))]) (st := [.int (oSet A (xs (i + 1)) (xs (i + 2)) (xs (i + 3))).1]) kv_L_51 (by decide) rfl (t_X8_set (mdlP_keepM hk1 hm) hw) (fun s H locs q1 q2 q3 => g_recv q1 q2 (by decide) rfl rfl) rfl (Nat.le_of_ble_eq_true rfl) dL_law_477 (fun v M2 hq => ?_)
  obtain ⟨rfl, hm2, hk2⟩ := hq
  show P _ _ [.int (oSet A (xs (i + 1)) (xs (i + 2)) (xs (i + 3))).1, .int (oSet A (xs (i + 1)) (xs (i + 2)) (xs (i + 3))).1] M2
  refine r_icmp_eq hR 1440 dL_law_480 (by decide) (fun c480 => ?_) (fun c480 => absurd rfl c480)
  exact k M2 (oSet A (xs (i + 1)) (xs (i + 2)) (xs (i + 3))).2 (clsP_keepC hk2 hc1) hm2 (w_Set hw)
set_option maxHeartbeats 4000000 in
set_option maxRecDepth 100000 in
theorem l_turn {G : gG} {b L : Nat} {xs : Nat → Int32} {P : gP} (hC : LwC G b L xs P) {i : Nat} {M : gM} {A : gA} (hi : i + 6 ≤ L) (hc : clsP M A) (hm : mdlP M A) (hw : wfA A) (k : ∀ (M' : gM) (A' : gA), clsP M' A' → mdlP M' A' → wfA A' → P 1440 [some (.ref b), some (.ref (ad G 0 0)), some (.ref (ad G 15 0)), some (.int (nI i))] [] M') : P 485 [some (.ref b), some (.ref (ad G 0 0)), some (.ref (ad G 15 0)), some (.int (nI i))] [] M := by
  have hR := hC.1
  refine r_aload1 hR dL_law_485 ?_
  refine r_aload0 hR dL_law_486 ?_
  refine r_iload3 hR dL_law_487 ?_
  refine r_iconst hR (nI 1) (by decide) dL_law_488 ?_
  refine r_iadd hR dL_law_489 ?_
  try rw [nI_add]
  refine hC.2.1 _ _ _ _ (i + 1) dL_law_490 (by omega) ?_
  refine r_aload0 hR dL_law_491 ?_
  refine r_iload3 hR dL_law_492 ?_
  refine r_iconst hR (nI 2) (by decide) dL_law_493 ?_
  refine r_iadd hR dL_law_494 ?_
  try rw [nI_add]
  refine hC.2.1 _ _ _ _ (i + 2) dL_law_495 (by omega) ?_
  refine g_callV hR (As := [.int (xs (i + 1)), .int (xs (i + 2))]) (st := []) kv_L_52 (by decide) rfl (t_X7_turn hc hw) (fun s H locs q1 q2 q3 => g_recv q1 q2 (by decide) rfl rfl) rfl (Nat.le_of_ble_eq_true rfl) dL_law_496 (fun v M1 hq => ?_)
  obtain ⟨rfl, hc1, hk1⟩ := hq
  show P _ _ [.int (oTurn A (xs (i + 1)) (xs (i + 2))).1] M1
  refine r_aload2 hR dL_law_499 ?_
  refine r_aload0 hR dL_law_500 ?_
  refine r_iload3 hR dL_law_501 ?_
  refine r_iconst hR (nI 1) (by decide) dL_law_502 ?_
  refine r_iadd hR dL_law_503 ?_
  try rw [nI_add]
  refine hC.2.1 _ _ _ _ (i + 1) dL_law_504 (by omega) ?_
  refine r_aload0 hR dL_law_505 ?_
  refine r_iload3 hR dL_law_506 ?_
  refine r_iconst hR (nI 2) (by decide) dL_law_507 ?_
  refine r_iadd hR dL_law_508 ?_
  try rw [nI_add]
  refine hC.2.1 _ _ _ _ (i + 2) dL_law_509 (by omega) ?_
  refine g_callV hR (As := [.int (xs (i + 1)), .int (xs (i + 2))]) (st := [.int (oTurn A (xs (i + 1)) (xs (i + 2))).1]) kv_L_55 (by decide) rfl (t_X8_turn (mdlP_keepM hk1 hm) hw) (fun s H locs q1 q2 q3 => g_recv q1 q2 (by decide) rfl rfl) rfl (Nat.le_of_ble_eq_true rfl) dL_law_510 (fun v M2 hq => ?_)
  obtain ⟨rfl, hm2, hk2⟩ := hq
  show P _ _ [.int (oTurn A (xs (i + 1)) (xs (i + 2))).1, .int (oTurn A (xs (i + 1)) (xs (i + 2))).1] M2
  refine r_icmp_eq hR 1440 dL_law_513 (by decide) (fun c513 => ?_) (fun c513 => absurd rfl c513)
  exact k M2 (oTurn A (xs (i + 1)) (xs (i + 2))).2 (clsP_keepC hk2 hc1) hm2 (w_Turn hw)
set_option maxHeartbeats 4000000 in
set_option maxRecDepth 100000 in
theorem l_as {G : gG} {b L : Nat} {xs : Nat → Int32} {P : gP} (hC : LwC G b L xs P) {i : Nat} {M : gM} {A : gA} (hi : i + 6 ≤ L) (hc : clsP M A) (hm : mdlP M A) (hw : wfA A) (k : ∀ (M' : gM) (A' : gA), clsP M' A' → mdlP M' A' → wfA A' → P 1440 [some (.ref b), some (.ref (ad G 0 0)), some (.ref (ad G 15 0)), some (.int (nI i))] [] M') : P 518 [some (.ref b), some (.ref (ad G 0 0)), some (.ref (ad G 15 0)), some (.int (nI i))] [] M := by
  have hR := hC.1
  refine r_aload1 hR dL_law_518 ?_
  refine r_aload0 hR dL_law_519 ?_
  refine r_iload3 hR dL_law_520 ?_
  refine r_iconst hR (nI 1) (by decide) dL_law_521 ?_
  refine r_iadd hR dL_law_522 ?_
  try rw [nI_add]
  refine hC.2.1 _ _ _ _ (i + 1) dL_law_523 (by omega) ?_
  refine r_aload0 hR dL_law_524 ?_
  refine r_iload3 hR dL_law_525 ?_
  refine r_iconst hR (nI 2) (by decide) dL_law_526 ?_
  refine r_iadd hR dL_law_527 ?_
  try rw [nI_add]
  refine hC.2.1 _ _ _ _ (i + 2) dL_law_528 (by omega) ?_
  refine g_callV hR (As := [.int (xs (i + 1)), .int (xs (i + 2))]) (st := []) kv_L_56 (by decide) rfl (t_X7_as hc hw) (fun s H locs q1 q2 q3 => g_recv q1 q2 (by decide) rfl rfl) rfl (Nat.le_of_ble_eq_true rfl) dL_law_529 (fun v M1 hq => ?_)
  obtain ⟨rfl, hc1, hk1⟩ := hq
  show P _ _ [.int (oAs A (xs (i + 1)) (xs (i + 2))).1] M1
  refine r_aload2 hR dL_law_532 ?_
  refine r_aload0 hR dL_law_533 ?_
  refine r_iload3 hR dL_law_534 ?_
  refine r_iconst hR (nI 1) (by decide) dL_law_535 ?_
  refine r_iadd hR dL_law_536 ?_
  try rw [nI_add]
  refine hC.2.1 _ _ _ _ (i + 1) dL_law_537 (by omega) ?_
  refine r_aload0 hR dL_law_538 ?_
  refine r_iload3 hR dL_law_539 ?_
  refine r_iconst hR (nI 2) (by decide) dL_law_540 ?_
  refine r_iadd hR dL_law_541 ?_
  try rw [nI_add]
  refine hC.2.1 _ _ _ _ (i + 2) dL_law_542 (by omega) ?_
  refine g_callV hR (As := [.int (xs (i + 1)), .int (xs (i + 2))]) (st := [.int (oAs A (xs (i + 1)) (xs (i + 2))).1]) kv_L_59 (by decide) rfl (t_X8_as (mdlP_keepM hk1 hm) hw) (fun s H locs q1 q2 q3 => g_recv q1 q2 (by decide) rfl rfl) rfl (Nat.le_of_ble_eq_true rfl) dL_law_543 (fun v M2 hq => ?_)
  obtain ⟨rfl, hm2, hk2⟩ := hq
  show P _ _ [.int (oAs A (xs (i + 1)) (xs (i + 2))).1, .int (oAs A (xs (i + 1)) (xs (i + 2))).1] M2
  refine r_icmp_eq hR 1440 dL_law_546 (by decide) (fun c546 => ?_) (fun c546 => absurd rfl c546)
  exact k M2 (oAs A (xs (i + 1)) (xs (i + 2))).2 (clsP_keepC hk2 hc1) hm2 (w_As hw)
set_option maxHeartbeats 4000000 in
set_option maxRecDepth 100000 in
theorem l_days {G : gG} {b L : Nat} {xs : Nat → Int32} {P : gP} (hC : LwC G b L xs P) {i : Nat} {M : gM} {A : gA} (hi : i + 6 ≤ L) (hc : clsP M A) (hm : mdlP M A) (hw : wfA A) (k : ∀ (M' : gM) (A' : gA), clsP M' A' → mdlP M' A' → wfA A' → P 1440 [some (.ref b), some (.ref (ad G 0 0)), some (.ref (ad G 15 0)), some (.int (nI i))] [] M') : P 551 [some (.ref b), some (.ref (ad G 0 0)), some (.ref (ad G 15 0)), some (.int (nI i))] [] M := by
  have hR := hC.1
  refine r_aload1 hR dL_law_551 ?_
  refine r_aload0 hR dL_law_552 ?_
  refine r_iload3 hR dL_law_553 ?_
  refine r_iconst hR (nI 1) (by decide) dL_law_554 ?_
  refine r_iadd hR dL_law_555 ?_
  try rw [nI_add]
  refine hC.2.1 _ _ _ _ (i + 1) dL_law_556 (by omega) ?_
  refine g_callV hR (As := [.int (xs (i + 1))]) (st := []) kv_L_60 (by decide) rfl (t_X7_days hc hw) (fun s H locs q1 q2 q3 => g_recv q1 q2 (by decide) rfl rfl) rfl (Nat.le_of_ble_eq_true rfl) dL_law_557 (fun v M1 hq => ?_)
  obtain ⟨rfl, hc1, hk1⟩ := hq
  show P _ _ [.int (oDays A (xs (i + 1))).1] M1
  refine r_aload2 hR dL_law_560 ?_
  refine r_aload0 hR dL_law_561 ?_
  refine r_iload3 hR dL_law_562 ?_
  refine r_iconst hR (nI 1) (by decide) dL_law_563 ?_
  refine r_iadd hR dL_law_564 ?_
  try rw [nI_add]
  refine hC.2.1 _ _ _ _ (i + 1) dL_law_565 (by omega) ?_
  refine g_callV hR (As := [.int (xs (i + 1))]) (st := [.int (oDays A (xs (i + 1))).1]) kv_L_63 (by decide) rfl (t_X8_days (mdlP_keepM hk1 hm) hw) (fun s H locs q1 q2 q3 => g_recv q1 q2 (by decide) rfl rfl) rfl (Nat.le_of_ble_eq_true rfl) dL_law_566 (fun v M2 hq => ?_)
  obtain ⟨rfl, hm2, hk2⟩ := hq
  show P _ _ [.int (oDays A (xs (i + 1))).1, .int (oDays A (xs (i + 1))).1] M2
  refine r_icmp_eq hR 1440 dL_law_569 (by decide) (fun c569 => ?_) (fun c569 => absurd rfl c569)
  exact k M2 (oDays A (xs (i + 1))).2 (clsP_keepC hk2 hc1) hm2 (w_Days hw)
set_option maxHeartbeats 4000000 in
set_option maxRecDepth 100000 in
theorem l_bribe {G : gG} {b L : Nat} {xs : Nat → Int32} {P : gP} (hC : LwC G b L xs P) {i : Nat} {M : gM} {A : gA} (hi : i + 6 ≤ L) (hc : clsP M A) (hm : mdlP M A) (hw : wfA A) (k : ∀ (M' : gM) (A' : gA), clsP M' A' → mdlP M' A' → wfA A' → P 1440 [some (.ref b), some (.ref (ad G 0 0)), some (.ref (ad G 15 0)), some (.int (nI i))] [] M') : P 574 [some (.ref b), some (.ref (ad G 0 0)), some (.ref (ad G 15 0)), some (.int (nI i))] [] M := by
  have hR := hC.1
  refine r_aload1 hR dL_law_574 ?_
  refine r_aload0 hR dL_law_575 ?_
  refine r_iload3 hR dL_law_576 ?_
  refine r_iconst hR (nI 1) (by decide) dL_law_577 ?_
  refine r_iadd hR dL_law_578 ?_
  try rw [nI_add]
  refine hC.2.1 _ _ _ _ (i + 1) dL_law_579 (by omega) ?_
  refine g_callV hR (As := [.int (xs (i + 1))]) (st := []) kv_L_64 (by decide) rfl (t_X7_bribe hc hw) (fun s H locs q1 q2 q3 => g_recv q1 q2 (by decide) rfl rfl) rfl (Nat.le_of_ble_eq_true rfl) dL_law_580 (fun v M1 hq => ?_)
  obtain ⟨rfl, hc1, hk1⟩ := hq
  show P _ _ [.int (oBribe A (xs (i + 1))).1] M1
  refine r_aload2 hR dL_law_583 ?_
  refine r_aload0 hR dL_law_584 ?_
  refine r_iload3 hR dL_law_585 ?_
  refine r_iconst hR (nI 1) (by decide) dL_law_586 ?_
  refine r_iadd hR dL_law_587 ?_
  try rw [nI_add]
  refine hC.2.1 _ _ _ _ (i + 1) dL_law_588 (by omega) ?_
  refine g_callV hR (As := [.int (xs (i + 1))]) (st := [.int (oBribe A (xs (i + 1))).1]) kv_L_67 (by decide) rfl (t_X8_bribe (mdlP_keepM hk1 hm) hw) (fun s H locs q1 q2 q3 => g_recv q1 q2 (by decide) rfl rfl) rfl (Nat.le_of_ble_eq_true rfl) dL_law_589 (fun v M2 hq => ?_)
  obtain ⟨rfl, hm2, hk2⟩ := hq
  show P _ _ [.int (oBribe A (xs (i + 1))).1, .int (oBribe A (xs (i + 1))).1] M2
  refine r_icmp_eq hR 1440 dL_law_592 (by decide) (fun c592 => ?_) (fun c592 => absurd rfl c592)
  exact k M2 (oBribe A (xs (i + 1))).2 (clsP_keepC hk2 hc1) hm2 (w_Bribe hw)
set_option maxHeartbeats 4000000 in
set_option maxRecDepth 100000 in
theorem l_now {G : gG} {b L : Nat} {xs : Nat → Int32} {P : gP} (hC : LwC G b L xs P) {i : Nat} {M : gM} {A : gA} (hi : i + 6 ≤ L) (hc : clsP M A) (hm : mdlP M A) (hw : wfA A) (k : ∀ (M' : gM) (A' : gA), clsP M' A' → mdlP M' A' → wfA A' → P 1440 [some (.ref b), some (.ref (ad G 0 0)), some (.ref (ad G 15 0)), some (.int (nI i))] [] M') : P 597 [some (.ref b), some (.ref (ad G 0 0)), some (.ref (ad G 15 0)), some (.int (nI i))] [] M := by
  have hR := hC.1
  refine r_aload1 hR dL_law_597 ?_
  refine r_aload0 hR dL_law_598 ?_
  refine r_iload3 hR dL_law_599 ?_
  refine r_iconst hR (nI 1) (by decide) dL_law_600 ?_
  refine r_iadd hR dL_law_601 ?_
  try rw [nI_add]
  refine hC.2.1 _ _ _ _ (i + 1) dL_law_602 (by omega) ?_
  refine g_callV hR (As := [.int (xs (i + 1))]) (st := []) kv_L_68 (by decide) rfl (t_X7_now hc hw) (fun s H locs q1 q2 q3 => g_recv q1 q2 (by decide) rfl rfl) rfl (Nat.le_of_ble_eq_true rfl) dL_law_603 (fun v M1 hq => ?_)
  obtain ⟨rfl, hc1, hk1⟩ := hq
  show P _ _ [.int (oNow A (xs (i + 1))).1] M1
  refine r_aload2 hR dL_law_606 ?_
  refine r_aload0 hR dL_law_607 ?_
  refine r_iload3 hR dL_law_608 ?_
  refine r_iconst hR (nI 1) (by decide) dL_law_609 ?_
  refine r_iadd hR dL_law_610 ?_
  try rw [nI_add]
  refine hC.2.1 _ _ _ _ (i + 1) dL_law_611 (by omega) ?_
  refine g_callV hR (As := [.int (xs (i + 1))]) (st := [.int (oNow A (xs (i + 1))).1]) kv_L_71 (by decide) rfl (t_X8_now (mdlP_keepM hk1 hm) hw) (fun s H locs q1 q2 q3 => g_recv q1 q2 (by decide) rfl rfl) rfl (Nat.le_of_ble_eq_true rfl) dL_law_612 (fun v M2 hq => ?_)
  obtain ⟨rfl, hm2, hk2⟩ := hq
  show P _ _ [.int (oNow A (xs (i + 1))).1, .int (oNow A (xs (i + 1))).1] M2
  refine r_icmp_eq hR 1440 dL_law_615 (by decide) (fun c615 => ?_) (fun c615 => absurd rfl c615)
  exact k M2 (oNow A (xs (i + 1))).2 (clsP_keepC hk2 hc1) hm2 (w_Now hw)
set_option maxHeartbeats 4000000 in
set_option maxRecDepth 100000 in
theorem l_on {G : gG} {b L : Nat} {xs : Nat → Int32} {P : gP} (hC : LwC G b L xs P) {i : Nat} {M : gM} {A : gA} (hi : i + 6 ≤ L) (hc : clsP M A) (hm : mdlP M A) (hw : wfA A) (k : ∀ (M' : gM) (A' : gA), clsP M' A' → mdlP M' A' → wfA A' → P 1440 [some (.ref b), some (.ref (ad G 0 0)), some (.ref (ad G 15 0)), some (.int (nI i))] [] M') : P 620 [some (.ref b), some (.ref (ad G 0 0)), some (.ref (ad G 15 0)), some (.int (nI i))] [] M := by
  have hR := hC.1
  refine r_aload1 hR dL_law_620 ?_
  refine r_aload0 hR dL_law_621 ?_
  refine r_iload3 hR dL_law_622 ?_
  refine r_iconst hR (nI 1) (by decide) dL_law_623 ?_
  refine r_iadd hR dL_law_624 ?_
  try rw [nI_add]
  refine hC.2.1 _ _ _ _ (i + 1) dL_law_625 (by omega) ?_
  refine r_aload0 hR dL_law_626 ?_
  refine r_iload3 hR dL_law_627 ?_
  refine r_iconst hR (nI 2) (by decide) dL_law_628 ?_
  refine r_iadd hR dL_law_629 ?_
  try rw [nI_add]
  refine hC.2.1 _ _ _ _ (i + 2) dL_law_630 (by omega) ?_
  refine r_aload0 hR dL_law_631 ?_
  refine r_iload3 hR dL_law_632 ?_
  refine r_iconst hR (nI 3) (by decide) dL_law_633 ?_
  refine r_iadd hR dL_law_634 ?_
  try rw [nI_add]
  refine hC.2.1 _ _ _ _ (i + 3) dL_law_635 (by omega) ?_
  refine g_callV hR (As := [.int (xs (i + 1)), .int (xs (i + 2)), .int (xs (i + 3))]) (st := []) kv_L_72 (by decide) rfl (t_X7_on hc hw) (fun s H locs q1 q2 q3 => g_recv q1 q2 (by decide) rfl rfl) rfl (Nat.le_of_ble_eq_true rfl) dL_law_636 (fun v M1 hq => ?_)
  obtain ⟨rfl, hc1, hk1⟩ := hq
  show P _ _ [.int (oOn A (xs (i + 1)) (xs (i + 2)) (xs (i + 3))).1] M1
  refine r_aload2 hR dL_law_639 ?_
  refine r_aload0 hR dL_law_640 ?_
  refine r_iload3 hR dL_law_641 ?_
  refine r_iconst hR (nI 1) (by decide) dL_law_642 ?_
  refine r_iadd hR dL_law_643 ?_
  try rw [nI_add]
  refine hC.2.1 _ _ _ _ (i + 1) dL_law_644 (by omega) ?_
  refine r_aload0 hR dL_law_645 ?_
  refine r_iload3 hR dL_law_646 ?_
  refine r_iconst hR (nI 2) (by decide) dL_law_647 ?_
  refine r_iadd hR dL_law_648 ?_
  try rw [nI_add]
  refine hC.2.1 _ _ _ _ (i + 2) dL_law_649 (by omega) ?_
  refine r_aload0 hR dL_law_650 ?_
  refine r_iload3 hR dL_law_651 ?_
  refine r_iconst hR (nI 3) (by decide) dL_law_652 ?_
  refine r_iadd hR dL_law_653 ?_
  try rw [nI_add]
  refine hC.2.1 _ _ _ _ (i + 3) dL_law_654 (by omega) ?_
  refine g_callV hR (As := [.int (xs (i + 1)), .int (xs (i + 2)), .int (xs (i + 3))]) (st := [.int (oOn A (xs (i + 1)) (xs (i + 2)) (xs (i + 3))).1]) kv_L_75 (by decide) rfl (t_X8_on (mdlP_keepM hk1 hm) hw) (fun s H locs q1 q2 q3 => g_recv q1 q2 (by decide) rfl rfl) rfl (Nat.le_of_ble_eq_true rfl) dL_law_655 (fun v M2 hq => ?_)
  obtain ⟨rfl, hm2, hk2⟩ := hq
  show P _ _ [.int (oOn A (xs (i + 1)) (xs (i + 2)) (xs (i + 3))).1, .int (oOn A (xs (i + 1)) (xs (i + 2)) (xs (i + 3))).1] M2
  refine r_icmp_eq hR 1440 dL_law_658 (by decide) (fun c658 => ?_) (fun c658 => absurd rfl c658)
  exact k M2 (oOn A (xs (i + 1)) (xs (i + 2)) (xs (i + 3))).2 (clsP_keepC hk2 hc1) hm2 (w_On hw)
set_option maxHeartbeats 4000000 in
set_option maxRecDepth 100000 in
theorem l_comes {G : gG} {b L : Nat} {xs : Nat → Int32} {P : gP} (hC : LwC G b L xs P) {i : Nat} {M : gM} {A : gA} (hi : i + 6 ≤ L) (hc : clsP M A) (hm : mdlP M A) (hw : wfA A) (k : ∀ (M' : gM) (A' : gA), clsP M' A' → mdlP M' A' → wfA A' → P 1440 [some (.ref b), some (.ref (ad G 0 0)), some (.ref (ad G 15 0)), some (.int (nI i))] [] M') : P 663 [some (.ref b), some (.ref (ad G 0 0)), some (.ref (ad G 15 0)), some (.int (nI i))] [] M := by
  have hR := hC.1
  refine r_aload1 hR dL_law_663 ?_
  refine r_aload0 hR dL_law_664 ?_
  refine r_iload3 hR dL_law_665 ?_
  refine r_iconst hR (nI 1) (by decide) dL_law_666 ?_
  refine r_iadd hR dL_law_667 ?_
  try rw [nI_add]
  refine hC.2.1 _ _ _ _ (i + 1) dL_law_668 (by omega) ?_
  refine r_aload0 hR dL_law_669 ?_
  refine r_iload3 hR dL_law_670 ?_
  refine r_iconst hR (nI 2) (by decide) dL_law_671 ?_
  refine r_iadd hR dL_law_672 ?_
  try rw [nI_add]
  refine hC.2.1 _ _ _ _ (i + 2) dL_law_673 (by omega) ?_
  refine g_callV hR (As := [.int (xs (i + 1)), .int (xs (i + 2))]) (st := []) kv_L_76 (by decide) rfl (t_X7_comes hc hw) (fun s H locs q1 q2 q3 => g_recv q1 q2 (by decide) rfl rfl) rfl (Nat.le_of_ble_eq_true rfl) dL_law_674 (fun v M1 hq => ?_)
  obtain ⟨rfl, hc1, hk1⟩ := hq
  show P _ _ [.int (oComes A (xs (i + 1)) (xs (i + 2))).1] M1
  refine r_aload2 hR dL_law_677 ?_
  refine r_aload0 hR dL_law_678 ?_
  refine r_iload3 hR dL_law_679 ?_
  refine r_iconst hR (nI 1) (by decide) dL_law_680 ?_
  refine r_iadd hR dL_law_681 ?_
  try rw [nI_add]
  refine hC.2.1 _ _ _ _ (i + 1) dL_law_682 (by omega) ?_
  refine r_aload0 hR dL_law_683 ?_
  refine r_iload3 hR dL_law_684 ?_
  refine r_iconst hR (nI 2) (by decide) dL_law_685 ?_
  refine r_iadd hR dL_law_686 ?_
  try rw [nI_add]
  refine hC.2.1 _ _ _ _ (i + 2) dL_law_687 (by omega) ?_
  refine g_callV hR (As := [.int (xs (i + 1)), .int (xs (i + 2))]) (st := [.int (oComes A (xs (i + 1)) (xs (i + 2))).1]) kv_L_79 (by decide) rfl (t_X8_comes (mdlP_keepM hk1 hm) hw) (fun s H locs q1 q2 q3 => g_recv q1 q2 (by decide) rfl rfl) rfl (Nat.le_of_ble_eq_true rfl) dL_law_688 (fun v M2 hq => ?_)
  obtain ⟨rfl, hm2, hk2⟩ := hq
  show P _ _ [.int (oComes A (xs (i + 1)) (xs (i + 2))).1, .int (oComes A (xs (i + 1)) (xs (i + 2))).1] M2
  refine r_icmp_eq hR 1440 dL_law_691 (by decide) (fun c691 => ?_) (fun c691 => absurd rfl c691)
  exact k M2 (oComes A (xs (i + 1)) (xs (i + 2))).2 (clsP_keepC hk2 hc1) hm2 (w_Comes hw)
set_option maxHeartbeats 4000000 in
set_option maxRecDepth 100000 in
theorem l_meet {G : gG} {b L : Nat} {xs : Nat → Int32} {P : gP} (hC : LwC G b L xs P) {i : Nat} {M : gM} {A : gA} (hi : i + 6 ≤ L) (hc : clsP M A) (hm : mdlP M A) (hw : wfA A) (k : ∀ (M' : gM) (A' : gA), clsP M' A' → mdlP M' A' → wfA A' → P 1440 [some (.ref b), some (.ref (ad G 0 0)), some (.ref (ad G 15 0)), some (.int (nI i))] [] M') : P 696 [some (.ref b), some (.ref (ad G 0 0)), some (.ref (ad G 15 0)), some (.int (nI i))] [] M := by
  have hR := hC.1
  refine r_aload1 hR dL_law_696 ?_
  refine r_aload0 hR dL_law_697 ?_
  refine r_iload3 hR dL_law_698 ?_
  refine r_iconst hR (nI 1) (by decide) dL_law_699 ?_
  refine r_iadd hR dL_law_700 ?_
  try rw [nI_add]
  refine hC.2.1 _ _ _ _ (i + 1) dL_law_701 (by omega) ?_
  refine r_aload0 hR dL_law_702 ?_
  refine r_iload3 hR dL_law_703 ?_
  refine r_iconst hR (nI 2) (by decide) dL_law_704 ?_
  refine r_iadd hR dL_law_705 ?_
  try rw [nI_add]
  refine hC.2.1 _ _ _ _ (i + 2) dL_law_706 (by omega) ?_
  refine g_callV hR (As := [.int (xs (i + 1)), .int (xs (i + 2))]) (st := []) kv_L_80 (by decide) rfl (t_X7_meet hc hw) (fun s H locs q1 q2 q3 => g_recv q1 q2 (by decide) rfl rfl) rfl (Nat.le_of_ble_eq_true rfl) dL_law_707 (fun v M1 hq => ?_)
  obtain ⟨rfl, hc1, hk1⟩ := hq
  show P _ _ [.int (oMeet A (xs (i + 1)) (xs (i + 2))).1] M1
  refine r_aload2 hR dL_law_710 ?_
  refine r_aload0 hR dL_law_711 ?_
  refine r_iload3 hR dL_law_712 ?_
  refine r_iconst hR (nI 1) (by decide) dL_law_713 ?_
  refine r_iadd hR dL_law_714 ?_
  try rw [nI_add]
  refine hC.2.1 _ _ _ _ (i + 1) dL_law_715 (by omega) ?_
  refine r_aload0 hR dL_law_716 ?_
  refine r_iload3 hR dL_law_717 ?_
  refine r_iconst hR (nI 2) (by decide) dL_law_718 ?_
  refine r_iadd hR dL_law_719 ?_
  try rw [nI_add]
  refine hC.2.1 _ _ _ _ (i + 2) dL_law_720 (by omega) ?_
  refine g_callV hR (As := [.int (xs (i + 1)), .int (xs (i + 2))]) (st := [.int (oMeet A (xs (i + 1)) (xs (i + 2))).1]) kv_L_83 (by decide) rfl (t_X8_meet (mdlP_keepM hk1 hm) hw) (fun s H locs q1 q2 q3 => g_recv q1 q2 (by decide) rfl rfl) rfl (Nat.le_of_ble_eq_true rfl) dL_law_721 (fun v M2 hq => ?_)
  obtain ⟨rfl, hm2, hk2⟩ := hq
  show P _ _ [.int (oMeet A (xs (i + 1)) (xs (i + 2))).1, .int (oMeet A (xs (i + 1)) (xs (i + 2))).1] M2
  refine r_icmp_eq hR 1440 dL_law_724 (by decide) (fun c724 => ?_) (fun c724 => absurd rfl c724)
  exact k M2 (oMeet A (xs (i + 1)) (xs (i + 2))).2 (clsP_keepC hk2 hc1) hm2 (w_Meet hw)
set_option maxHeartbeats 4000000 in
set_option maxRecDepth 100000 in
theorem l_bribes {G : gG} {b L : Nat} {xs : Nat → Int32} {P : gP} (hC : LwC G b L xs P) {i : Nat} {M : gM} {A : gA} (hi : i + 6 ≤ L) (hc : clsP M A) (hm : mdlP M A) (hw : wfA A) (k : ∀ (M' : gM) (A' : gA), clsP M' A' → mdlP M' A' → wfA A' → P 1440 [some (.ref b), some (.ref (ad G 0 0)), some (.ref (ad G 15 0)), some (.int (nI i))] [] M') : P 729 [some (.ref b), some (.ref (ad G 0 0)), some (.ref (ad G 15 0)), some (.int (nI i))] [] M := by
  have hR := hC.1
  refine r_aload1 hR dL_law_729 ?_
  refine r_aload0 hR dL_law_730 ?_
  refine r_iload3 hR dL_law_731 ?_
  refine r_iconst hR (nI 1) (by decide) dL_law_732 ?_
  refine r_iadd hR dL_law_733 ?_
  try rw [nI_add]
  refine hC.2.1 _ _ _ _ (i + 1) dL_law_734 (by omega) ?_
  refine r_aload0 hR dL_law_735 ?_
  refine r_iload3 hR dL_law_736 ?_
  refine r_iconst hR (nI 2) (by decide) dL_law_737 ?_
  refine r_iadd hR dL_law_738 ?_
  try rw [nI_add]
  refine hC.2.1 _ _ _ _ (i + 2) dL_law_739 (by omega) ?_
  refine r_aload0 hR dL_law_740 ?_
  refine r_iload3 hR dL_law_741 ?_
  refine r_iconst hR (nI 3) (by decide) dL_law_742 ?_
  refine r_iadd hR dL_law_743 ?_
  try rw [nI_add]
  refine hC.2.1 _ _ _ _ (i + 3) dL_law_744 (by omega) ?_
  refine g_callV hR (As := [.int (xs (i + 1)), .int (xs (i + 2)), .int (xs (i + 3))]) (st := []) kv_L_84 (by decide) rfl (t_X7_bribes hc hw) (fun s H locs q1 q2 q3 => g_recv q1 q2 (by decide) rfl rfl) rfl (Nat.le_of_ble_eq_true rfl) dL_law_745 (fun v M1 hq => ?_)
  obtain ⟨rfl, hc1, hk1⟩ := hq
  show P _ _ [.int (oBribes A (xs (i + 1)) (xs (i + 2)) (xs (i + 3))).1] M1
  refine r_aload2 hR dL_law_748 ?_
  refine r_aload0 hR dL_law_749 ?_
  refine r_iload3 hR dL_law_750 ?_
  refine r_iconst hR (nI 1) (by decide) dL_law_751 ?_
  refine r_iadd hR dL_law_752 ?_
  try rw [nI_add]
  refine hC.2.1 _ _ _ _ (i + 1) dL_law_753 (by omega) ?_
  refine r_aload0 hR dL_law_754 ?_
  refine r_iload3 hR dL_law_755 ?_
  refine r_iconst hR (nI 2) (by decide) dL_law_756 ?_
  refine r_iadd hR dL_law_757 ?_
  try rw [nI_add]
  refine hC.2.1 _ _ _ _ (i + 2) dL_law_758 (by omega) ?_
  refine r_aload0 hR dL_law_759 ?_
  refine r_iload3 hR dL_law_760 ?_
  refine r_iconst hR (nI 3) (by decide) dL_law_761 ?_
  refine r_iadd hR dL_law_762 ?_
  try rw [nI_add]
  refine hC.2.1 _ _ _ _ (i + 3) dL_law_763 (by omega) ?_
  refine g_callV hR (As := [.int (xs (i + 1)), .int (xs (i + 2)), .int (xs (i + 3))]) (st := [.int (oBribes A (xs (i + 1)) (xs (i + 2)) (xs (i + 3))).1]) kv_L_87 (by decide) rfl (t_X8_bribes (mdlP_keepM hk1 hm) hw) (fun s H locs q1 q2 q3 => g_recv q1 q2 (by decide) rfl rfl) rfl (Nat.le_of_ble_eq_true rfl) dL_law_764 (fun v M2 hq => ?_)
  obtain ⟨rfl, hm2, hk2⟩ := hq
  show P _ _ [.int (oBribes A (xs (i + 1)) (xs (i + 2)) (xs (i + 3))).1, .int (oBribes A (xs (i + 1)) (xs (i + 2)) (xs (i + 3))).1] M2
  refine r_icmp_eq hR 1440 dL_law_767 (by decide) (fun c767 => ?_) (fun c767 => absurd rfl c767)
  exact k M2 (oBribes A (xs (i + 1)) (xs (i + 2)) (xs (i + 3))).2 (clsP_keepC hk2 hc1) hm2 (w_Bribes hw)
set_option maxHeartbeats 4000000 in
set_option maxRecDepth 100000 in
theorem l_soonest {G : gG} {b L : Nat} {xs : Nat → Int32} {P : gP} (hC : LwC G b L xs P) {i : Nat} {M : gM} {A : gA} (hi : i + 6 ≤ L) (hc : clsP M A) (hm : mdlP M A) (hw : wfA A) (k : ∀ (M' : gM) (A' : gA), clsP M' A' → mdlP M' A' → wfA A' → P 1440 [some (.ref b), some (.ref (ad G 0 0)), some (.ref (ad G 15 0)), some (.int (nI i))] [] M') : P 772 [some (.ref b), some (.ref (ad G 0 0)), some (.ref (ad G 15 0)), some (.int (nI i))] [] M := by
  have hR := hC.1
  refine r_aload1 hR dL_law_772 ?_
  refine r_aload0 hR dL_law_773 ?_
  refine r_iload3 hR dL_law_774 ?_
  refine r_iconst hR (nI 1) (by decide) dL_law_775 ?_
  refine r_iadd hR dL_law_776 ?_
  try rw [nI_add]
  refine hC.2.1 _ _ _ _ (i + 1) dL_law_777 (by omega) ?_
  refine r_aload0 hR dL_law_778 ?_
  refine r_iload3 hR dL_law_779 ?_
  refine r_iconst hR (nI 2) (by decide) dL_law_780 ?_
  refine r_iadd hR dL_law_781 ?_
  try rw [nI_add]
  refine hC.2.1 _ _ _ _ (i + 2) dL_law_782 (by omega) ?_
  refine r_aload0 hR dL_law_783 ?_
  refine r_iload3 hR dL_law_784 ?_
  refine r_iconst hR (nI 3) (by decide) dL_law_785 ?_
  refine r_iadd hR dL_law_786 ?_
  try rw [nI_add]
  refine hC.2.1 _ _ _ _ (i + 3) dL_law_787 (by omega) ?_
  refine g_callV hR (As := [.int (xs (i + 1)), .int (xs (i + 2)), .int (xs (i + 3))]) (st := []) kv_L_88 (by decide) rfl (t_X7_soonest hc hw) (fun s H locs q1 q2 q3 => g_recv q1 q2 (by decide) rfl rfl) rfl (Nat.le_of_ble_eq_true rfl) dL_law_788 (fun v M1 hq => ?_)
  obtain ⟨rfl, hc1, hk1⟩ := hq
  show P _ _ [.int (oSoonest A (xs (i + 1)) (xs (i + 2)) (xs (i + 3))).1] M1
  refine r_aload2 hR dL_law_791 ?_
  refine r_aload0 hR dL_law_792 ?_
  refine r_iload3 hR dL_law_793 ?_
  refine r_iconst hR (nI 1) (by decide) dL_law_794 ?_
  refine r_iadd hR dL_law_795 ?_
  try rw [nI_add]
  refine hC.2.1 _ _ _ _ (i + 1) dL_law_796 (by omega) ?_
  refine r_aload0 hR dL_law_797 ?_
  refine r_iload3 hR dL_law_798 ?_
  refine r_iconst hR (nI 2) (by decide) dL_law_799 ?_
  refine r_iadd hR dL_law_800 ?_
  try rw [nI_add]
  refine hC.2.1 _ _ _ _ (i + 2) dL_law_801 (by omega) ?_
  refine r_aload0 hR dL_law_802 ?_
  refine r_iload3 hR dL_law_803 ?_
  refine r_iconst hR (nI 3) (by decide) dL_law_804 ?_
  refine r_iadd hR dL_law_805 ?_
  try rw [nI_add]
  refine hC.2.1 _ _ _ _ (i + 3) dL_law_806 (by omega) ?_
  refine g_callV hR (As := [.int (xs (i + 1)), .int (xs (i + 2)), .int (xs (i + 3))]) (st := [.int (oSoonest A (xs (i + 1)) (xs (i + 2)) (xs (i + 3))).1]) kv_L_91 (by decide) rfl (t_X8_soonest (mdlP_keepM hk1 hm) hw) (fun s H locs q1 q2 q3 => g_recv q1 q2 (by decide) rfl rfl) rfl (Nat.le_of_ble_eq_true rfl) dL_law_807 (fun v M2 hq => ?_)
  obtain ⟨rfl, hm2, hk2⟩ := hq
  show P _ _ [.int (oSoonest A (xs (i + 1)) (xs (i + 2)) (xs (i + 3))).1, .int (oSoonest A (xs (i + 1)) (xs (i + 2)) (xs (i + 3))).1] M2
  refine r_icmp_eq hR 1440 dL_law_810 (by decide) (fun c810 => ?_) (fun c810 => absurd rfl c810)
  exact k M2 (oSoonest A (xs (i + 1)) (xs (i + 2)) (xs (i + 3))).2 (clsP_keepC hk2 hc1) hm2 (w_Soonest hw)
set_option maxHeartbeats 4000000 in
set_option maxRecDepth 100000 in
theorem l_reach {G : gG} {b L : Nat} {xs : Nat → Int32} {P : gP} (hC : LwC G b L xs P) {i : Nat} {M : gM} {A : gA} (hi : i + 6 ≤ L) (hc : clsP M A) (hm : mdlP M A) (hw : wfA A) (k : ∀ (M' : gM) (A' : gA), clsP M' A' → mdlP M' A' → wfA A' → P 1440 [some (.ref b), some (.ref (ad G 0 0)), some (.ref (ad G 15 0)), some (.int (nI i))] [] M') : P 815 [some (.ref b), some (.ref (ad G 0 0)), some (.ref (ad G 15 0)), some (.int (nI i))] [] M := by
  have hR := hC.1
  refine r_aload1 hR dL_law_815 ?_
  refine r_aload0 hR dL_law_816 ?_
  refine r_iload3 hR dL_law_817 ?_
  refine r_iconst hR (nI 1) (by decide) dL_law_818 ?_
  refine r_iadd hR dL_law_819 ?_
  try rw [nI_add]
  refine hC.2.1 _ _ _ _ (i + 1) dL_law_820 (by omega) ?_
  refine r_aload0 hR dL_law_821 ?_
  refine r_iload3 hR dL_law_822 ?_
  refine r_iconst hR (nI 2) (by decide) dL_law_823 ?_
  refine r_iadd hR dL_law_824 ?_
  try rw [nI_add]
  refine hC.2.1 _ _ _ _ (i + 2) dL_law_825 (by omega) ?_
  refine g_callV hR (As := [.int (xs (i + 1)), .int (xs (i + 2))]) (st := []) kv_L_92 (by decide) rfl (t_X7_reach hc hw) (fun s H locs q1 q2 q3 => g_recv q1 q2 (by decide) rfl rfl) rfl (Nat.le_of_ble_eq_true rfl) dL_law_826 (fun v M1 hq => ?_)
  obtain ⟨rfl, hc1, hk1⟩ := hq
  show P _ _ [.long (oReach A (xs (i + 1)) (xs (i + 2))).1] M1
  refine r_aload2 hR dL_law_829 ?_
  refine r_aload0 hR dL_law_830 ?_
  refine r_iload3 hR dL_law_831 ?_
  refine r_iconst hR (nI 1) (by decide) dL_law_832 ?_
  refine r_iadd hR dL_law_833 ?_
  try rw [nI_add]
  refine hC.2.1 _ _ _ _ (i + 1) dL_law_834 (by omega) ?_
  refine r_aload0 hR dL_law_835 ?_
  refine r_iload3 hR dL_law_836 ?_
  refine r_iconst hR (nI 2) (by decide) dL_law_837 ?_
  refine r_iadd hR dL_law_838 ?_
  try rw [nI_add]
  refine hC.2.1 _ _ _ _ (i + 2) dL_law_839 (by omega) ?_
  refine g_callV hR (As := [.int (xs (i + 1)), .int (xs (i + 2))]) (st := [.long (oReach A (xs (i + 1)) (xs (i + 2))).1]) kv_L_96 (by decide) rfl (t_X8_reach (mdlP_keepM hk1 hm) hw) (fun s H locs q1 q2 q3 => g_recv q1 q2 (by decide) rfl rfl) rfl (Nat.le_of_ble_eq_true rfl) dL_law_840 (fun v M2 hq => ?_)
  obtain ⟨rfl, hm2, hk2⟩ := hq
  show P _ _ [.long (oReach A (xs (i + 1)) (xs (i + 2))).1, .long (oReach A (xs (i + 1)) (xs (i + 2))).1] M2
  refine r_lcmp hR dL_law_843 ?_
  refine r_if_eq hR 1440 dL_law_844 (by decide) (fun c844 => ?_) (fun c844 => absurd (lc_eq.mpr rfl) c844)
  exact k M2 (oReach A (xs (i + 1)) (xs (i + 2))).2 (clsP_keepC hk2 hc1) hm2 (w_Reach hw)
set_option maxHeartbeats 4000000 in
set_option maxRecDepth 100000 in
theorem l_swap {G : gG} {b L : Nat} {xs : Nat → Int32} {P : gP} (hC : LwC G b L xs P) {i : Nat} {M : gM} {A : gA} (hi : i + 6 ≤ L) (hc : clsP M A) (hm : mdlP M A) (hw : wfA A) (k : ∀ (M' : gM) (A' : gA), clsP M' A' → mdlP M' A' → wfA A' → P 1440 [some (.ref b), some (.ref (ad G 0 0)), some (.ref (ad G 15 0)), some (.int (nI i))] [] M') : P 849 [some (.ref b), some (.ref (ad G 0 0)), some (.ref (ad G 15 0)), some (.int (nI i))] [] M := by
  have hR := hC.1
  refine r_aload1 hR dL_law_849 ?_
  refine r_aload0 hR dL_law_850 ?_
  refine r_iload3 hR dL_law_851 ?_
  refine r_iconst hR (nI 1) (by decide) dL_law_852 ?_
  refine r_iadd hR dL_law_853 ?_
  try rw [nI_add]
  refine hC.2.1 _ _ _ _ (i + 1) dL_law_854 (by omega) ?_
  refine g_callV hR (As := [.int (xs (i + 1))]) (st := []) kv_L_97 (by decide) rfl (t_X7_swap hc hw) (fun s H locs q1 q2 q3 => g_recv q1 q2 (by decide) rfl rfl) rfl (Nat.le_of_ble_eq_true rfl) dL_law_855 (fun v M1 hq => ?_)
  obtain ⟨rfl, hc1, hk1⟩ := hq
  show P _ _ [.int (oSwap A (xs (i + 1))).1] M1
  refine r_aload2 hR dL_law_858 ?_
  refine r_aload0 hR dL_law_859 ?_
  refine r_iload3 hR dL_law_860 ?_
  refine r_iconst hR (nI 1) (by decide) dL_law_861 ?_
  refine r_iadd hR dL_law_862 ?_
  try rw [nI_add]
  refine hC.2.1 _ _ _ _ (i + 1) dL_law_863 (by omega) ?_
  refine g_callV hR (As := [.int (xs (i + 1))]) (st := [.int (oSwap A (xs (i + 1))).1]) kv_L_100 (by decide) rfl (t_X8_swap (mdlP_keepM hk1 hm) hw) (fun s H locs q1 q2 q3 => g_recv q1 q2 (by decide) rfl rfl) rfl (Nat.le_of_ble_eq_true rfl) dL_law_864 (fun v M2 hq => ?_)
  obtain ⟨rfl, hm2, hk2⟩ := hq
  show P _ _ [.int (oSwap A (xs (i + 1))).1, .int (oSwap A (xs (i + 1))).1] M2
  refine r_icmp_eq hR 1440 dL_law_867 (by decide) (fun c867 => ?_) (fun c867 => absurd rfl c867)
  exact k M2 (oSwap A (xs (i + 1))).2 (clsP_keepC hk2 hc1) hm2 (w_Swap hw)
set_option maxHeartbeats 4000000 in
set_option maxRecDepth 100000 in
theorem l_missed {G : gG} {b L : Nat} {xs : Nat → Int32} {P : gP} (hC : LwC G b L xs P) {i : Nat} {M : gM} {A : gA} (hi : i + 6 ≤ L) (hc : clsP M A) (hm : mdlP M A) (hw : wfA A) (k : ∀ (M' : gM) (A' : gA), clsP M' A' → mdlP M' A' → wfA A' → P 1440 [some (.ref b), some (.ref (ad G 0 0)), some (.ref (ad G 15 0)), some (.int (nI i))] [] M') : P 872 [some (.ref b), some (.ref (ad G 0 0)), some (.ref (ad G 15 0)), some (.int (nI i))] [] M := by
  have hR := hC.1
  refine r_aload1 hR dL_law_872 ?_
  refine r_aload0 hR dL_law_873 ?_
  refine r_iload3 hR dL_law_874 ?_
  refine r_iconst hR (nI 1) (by decide) dL_law_875 ?_
  refine r_iadd hR dL_law_876 ?_
  try rw [nI_add]
  refine hC.2.1 _ _ _ _ (i + 1) dL_law_877 (by omega) ?_
  refine g_callV hR (As := [.int (xs (i + 1))]) (st := []) kv_L_101 (by decide) rfl (t_X7_missed hc hw) (fun s H locs q1 q2 q3 => g_recv q1 q2 (by decide) rfl rfl) rfl (Nat.le_of_ble_eq_true rfl) dL_law_878 (fun v M1 hq => ?_)
  obtain ⟨rfl, hc1, hk1⟩ := hq
  show P _ _ [.int (oMissed A (xs (i + 1))).1] M1
  refine r_aload2 hR dL_law_881 ?_
  refine r_aload0 hR dL_law_882 ?_
  refine r_iload3 hR dL_law_883 ?_
  refine r_iconst hR (nI 1) (by decide) dL_law_884 ?_
  refine r_iadd hR dL_law_885 ?_
  try rw [nI_add]
  refine hC.2.1 _ _ _ _ (i + 1) dL_law_886 (by omega) ?_
  refine g_callV hR (As := [.int (xs (i + 1))]) (st := [.int (oMissed A (xs (i + 1))).1]) kv_L_104 (by decide) rfl (t_X8_missed (mdlP_keepM hk1 hm) hw) (fun s H locs q1 q2 q3 => g_recv q1 q2 (by decide) rfl rfl) rfl (Nat.le_of_ble_eq_true rfl) dL_law_887 (fun v M2 hq => ?_)
  obtain ⟨rfl, hm2, hk2⟩ := hq
  show P _ _ [.int (oMissed A (xs (i + 1))).1, .int (oMissed A (xs (i + 1))).1] M2
  refine r_icmp_eq hR 1440 dL_law_890 (by decide) (fun c890 => ?_) (fun c890 => absurd rfl c890)
  exact k M2 (oMissed A (xs (i + 1))).2 (clsP_keepC hk2 hc1) hm2 (w_Missed hw)
set_option maxHeartbeats 4000000 in
set_option maxRecDepth 100000 in
theorem l_enough {G : gG} {b L : Nat} {xs : Nat → Int32} {P : gP} (hC : LwC G b L xs P) {i : Nat} {M : gM} {A : gA} (hi : i + 6 ≤ L) (hc : clsP M A) (hm : mdlP M A) (hw : wfA A) (k : ∀ (M' : gM) (A' : gA), clsP M' A' → mdlP M' A' → wfA A' → P 1440 [some (.ref b), some (.ref (ad G 0 0)), some (.ref (ad G 15 0)), some (.int (nI i))] [] M') : P 895 [some (.ref b), some (.ref (ad G 0 0)), some (.ref (ad G 15 0)), some (.int (nI i))] [] M := by
  have hR := hC.1
  refine r_aload1 hR dL_law_895 ?_
  refine r_aload0 hR dL_law_896 ?_
  refine r_iload3 hR dL_law_897 ?_
  refine r_iconst hR (nI 1) (by decide) dL_law_898 ?_
  refine r_iadd hR dL_law_899 ?_
  try rw [nI_add]
  refine hC.2.1 _ _ _ _ (i + 1) dL_law_900 (by omega) ?_
  refine r_aload0 hR dL_law_901 ?_
  refine r_iload3 hR dL_law_902 ?_
  refine r_iconst hR (nI 2) (by decide) dL_law_903 ?_
  refine r_iadd hR dL_law_904 ?_
  try rw [nI_add]
  refine hC.2.1 _ _ _ _ (i + 2) dL_law_905 (by omega) ?_
  refine g_callV hR (As := [.int (xs (i + 1)), .int (xs (i + 2))]) (st := []) kv_L_105 (by decide) rfl (t_X7_enough hc hw) (fun s H locs q1 q2 q3 => g_recv q1 q2 (by decide) rfl rfl) rfl (Nat.le_of_ble_eq_true rfl) dL_law_906 (fun v M1 hq => ?_)
  obtain ⟨rfl, hc1, hk1⟩ := hq
  show P _ _ [.int (oEnough A (xs (i + 1)) (xs (i + 2))).1] M1
  refine r_aload2 hR dL_law_909 ?_
  refine r_aload0 hR dL_law_910 ?_
  refine r_iload3 hR dL_law_911 ?_
  refine r_iconst hR (nI 1) (by decide) dL_law_912 ?_
  refine r_iadd hR dL_law_913 ?_
  try rw [nI_add]
  refine hC.2.1 _ _ _ _ (i + 1) dL_law_914 (by omega) ?_
  refine r_aload0 hR dL_law_915 ?_
  refine r_iload3 hR dL_law_916 ?_
  refine r_iconst hR (nI 2) (by decide) dL_law_917 ?_
  refine r_iadd hR dL_law_918 ?_
  try rw [nI_add]
  refine hC.2.1 _ _ _ _ (i + 2) dL_law_919 (by omega) ?_
  refine g_callV hR (As := [.int (xs (i + 1)), .int (xs (i + 2))]) (st := [.int (oEnough A (xs (i + 1)) (xs (i + 2))).1]) kv_L_108 (by decide) rfl (t_X8_enough (mdlP_keepM hk1 hm) hw) (fun s H locs q1 q2 q3 => g_recv q1 q2 (by decide) rfl rfl) rfl (Nat.le_of_ble_eq_true rfl) dL_law_920 (fun v M2 hq => ?_)
  obtain ⟨rfl, hm2, hk2⟩ := hq
  show P _ _ [.int (oEnough A (xs (i + 1)) (xs (i + 2))).1, .int (oEnough A (xs (i + 1)) (xs (i + 2))).1] M2
  refine r_icmp_eq hR 1440 dL_law_923 (by decide) (fun c923 => ?_) (fun c923 => absurd rfl c923)
  exact k M2 (oEnough A (xs (i + 1)) (xs (i + 2))).2 (clsP_keepC hk2 hc1) hm2 (w_Enough hw)
set_option maxHeartbeats 4000000 in
set_option maxRecDepth 100000 in
theorem l_kind {G : gG} {b L : Nat} {xs : Nat → Int32} {P : gP} (hC : LwC G b L xs P) {i : Nat} {M : gM} {A : gA} (hi : i + 6 ≤ L) (hc : clsP M A) (hm : mdlP M A) (hw : wfA A) (k : ∀ (M' : gM) (A' : gA), clsP M' A' → mdlP M' A' → wfA A' → P 1440 [some (.ref b), some (.ref (ad G 0 0)), some (.ref (ad G 15 0)), some (.int (nI i))] [] M') : P 928 [some (.ref b), some (.ref (ad G 0 0)), some (.ref (ad G 15 0)), some (.int (nI i))] [] M := by
  have hR := hC.1
  refine r_aload1 hR dL_law_928 ?_
  refine r_aload0 hR dL_law_929 ?_
  refine r_iload3 hR dL_law_930 ?_
  refine r_iconst hR (nI 1) (by decide) dL_law_931 ?_
  refine r_iadd hR dL_law_932 ?_
  try rw [nI_add]
  refine hC.2.1 _ _ _ _ (i + 1) dL_law_933 (by omega) ?_
  refine r_aload0 hR dL_law_934 ?_
  refine r_iload3 hR dL_law_935 ?_
  refine r_iconst hR (nI 2) (by decide) dL_law_936 ?_
  refine r_iadd hR dL_law_937 ?_
  try rw [nI_add]
  refine hC.2.1 _ _ _ _ (i + 2) dL_law_938 (by omega) ?_
  refine g_callV hR (As := [.int (xs (i + 1)), .int (xs (i + 2))]) (st := []) kv_L_109 (by decide) rfl (t_X7_kind hc hw) (fun s H locs q1 q2 q3 => g_recv q1 q2 (by decide) rfl rfl) rfl (Nat.le_of_ble_eq_true rfl) dL_law_939 (fun v M1 hq => ?_)
  obtain ⟨rfl, hc1, hk1⟩ := hq
  show P _ _ [.int (oKind A (xs (i + 1)) (xs (i + 2))).1] M1
  refine r_aload2 hR dL_law_942 ?_
  refine r_aload0 hR dL_law_943 ?_
  refine r_iload3 hR dL_law_944 ?_
  refine r_iconst hR (nI 1) (by decide) dL_law_945 ?_
  refine r_iadd hR dL_law_946 ?_
  try rw [nI_add]
  refine hC.2.1 _ _ _ _ (i + 1) dL_law_947 (by omega) ?_
  refine r_aload0 hR dL_law_948 ?_
  refine r_iload3 hR dL_law_949 ?_
  refine r_iconst hR (nI 2) (by decide) dL_law_950 ?_
  refine r_iadd hR dL_law_951 ?_
  try rw [nI_add]
  refine hC.2.1 _ _ _ _ (i + 2) dL_law_952 (by omega) ?_
  refine g_callV hR (As := [.int (xs (i + 1)), .int (xs (i + 2))]) (st := [.int (oKind A (xs (i + 1)) (xs (i + 2))).1]) kv_L_112 (by decide) rfl (t_X8_kind (mdlP_keepM hk1 hm) hw) (fun s H locs q1 q2 q3 => g_recv q1 q2 (by decide) rfl rfl) rfl (Nat.le_of_ble_eq_true rfl) dL_law_953 (fun v M2 hq => ?_)
  obtain ⟨rfl, hm2, hk2⟩ := hq
  show P _ _ [.int (oKind A (xs (i + 1)) (xs (i + 2))).1, .int (oKind A (xs (i + 1)) (xs (i + 2))).1] M2
  refine r_icmp_eq hR 1440 dL_law_956 (by decide) (fun c956 => ?_) (fun c956 => absurd rfl c956)
  exact k M2 (oKind A (xs (i + 1)) (xs (i + 2))).2 (clsP_keepC hk2 hc1) hm2 (w_Kind hw)
set_option maxHeartbeats 4000000 in
set_option maxRecDepth 100000 in
theorem l_facing {G : gG} {b L : Nat} {xs : Nat → Int32} {P : gP} (hC : LwC G b L xs P) {i : Nat} {M : gM} {A : gA} (hi : i + 6 ≤ L) (hc : clsP M A) (hm : mdlP M A) (hw : wfA A) (k : ∀ (M' : gM) (A' : gA), clsP M' A' → mdlP M' A' → wfA A' → P 1440 [some (.ref b), some (.ref (ad G 0 0)), some (.ref (ad G 15 0)), some (.int (nI i))] [] M') : P 961 [some (.ref b), some (.ref (ad G 0 0)), some (.ref (ad G 15 0)), some (.int (nI i))] [] M := by
  have hR := hC.1
  refine r_aload1 hR dL_law_961 ?_
  refine r_aload0 hR dL_law_962 ?_
  refine r_iload3 hR dL_law_963 ?_
  refine r_iconst hR (nI 1) (by decide) dL_law_964 ?_
  refine r_iadd hR dL_law_965 ?_
  try rw [nI_add]
  refine hC.2.1 _ _ _ _ (i + 1) dL_law_966 (by omega) ?_
  refine r_aload0 hR dL_law_967 ?_
  refine r_iload3 hR dL_law_968 ?_
  refine r_iconst hR (nI 2) (by decide) dL_law_969 ?_
  refine r_iadd hR dL_law_970 ?_
  try rw [nI_add]
  refine hC.2.1 _ _ _ _ (i + 2) dL_law_971 (by omega) ?_
  refine g_callV hR (As := [.int (xs (i + 1)), .int (xs (i + 2))]) (st := []) kv_L_113 (by decide) rfl (t_X7_facing hc hw) (fun s H locs q1 q2 q3 => g_recv q1 q2 (by decide) rfl rfl) rfl (Nat.le_of_ble_eq_true rfl) dL_law_972 (fun v M1 hq => ?_)
  obtain ⟨rfl, hc1, hk1⟩ := hq
  show P _ _ [.int (oFacing A (xs (i + 1)) (xs (i + 2))).1] M1
  refine r_aload2 hR dL_law_975 ?_
  refine r_aload0 hR dL_law_976 ?_
  refine r_iload3 hR dL_law_977 ?_
  refine r_iconst hR (nI 1) (by decide) dL_law_978 ?_
  refine r_iadd hR dL_law_979 ?_
  try rw [nI_add]
  refine hC.2.1 _ _ _ _ (i + 1) dL_law_980 (by omega) ?_
  refine r_aload0 hR dL_law_981 ?_
  refine r_iload3 hR dL_law_982 ?_
  refine r_iconst hR (nI 2) (by decide) dL_law_983 ?_
  refine r_iadd hR dL_law_984 ?_
  try rw [nI_add]
  refine hC.2.1 _ _ _ _ (i + 2) dL_law_985 (by omega) ?_
  refine g_callV hR (As := [.int (xs (i + 1)), .int (xs (i + 2))]) (st := [.int (oFacing A (xs (i + 1)) (xs (i + 2))).1]) kv_L_116 (by decide) rfl (t_X8_facing (mdlP_keepM hk1 hm) hw) (fun s H locs q1 q2 q3 => g_recv q1 q2 (by decide) rfl rfl) rfl (Nat.le_of_ble_eq_true rfl) dL_law_986 (fun v M2 hq => ?_)
  obtain ⟨rfl, hm2, hk2⟩ := hq
  show P _ _ [.int (oFacing A (xs (i + 1)) (xs (i + 2))).1, .int (oFacing A (xs (i + 1)) (xs (i + 2))).1] M2
  refine r_icmp_eq hR 1440 dL_law_989 (by decide) (fun c989 => ?_) (fun c989 => absurd rfl c989)
  exact k M2 (oFacing A (xs (i + 1)) (xs (i + 2))).2 (clsP_keepC hk2 hc1) hm2 (w_Facing hw)
set_option maxHeartbeats 4000000 in
set_option maxRecDepth 100000 in
theorem l_best {G : gG} {b L : Nat} {xs : Nat → Int32} {P : gP} (hC : LwC G b L xs P) {i : Nat} {M : gM} {A : gA} (hi : i + 6 ≤ L) (hc : clsP M A) (hm : mdlP M A) (hw : wfA A) (k : ∀ (M' : gM) (A' : gA), clsP M' A' → mdlP M' A' → wfA A' → P 1440 [some (.ref b), some (.ref (ad G 0 0)), some (.ref (ad G 15 0)), some (.int (nI i))] [] M') : P 994 [some (.ref b), some (.ref (ad G 0 0)), some (.ref (ad G 15 0)), some (.int (nI i))] [] M := by
  have hR := hC.1
  refine r_aload1 hR dL_law_994 ?_
  refine r_aload0 hR dL_law_995 ?_
  refine r_iload3 hR dL_law_996 ?_
  refine r_iconst hR (nI 1) (by decide) dL_law_997 ?_
  refine r_iadd hR dL_law_998 ?_
  try rw [nI_add]
  refine hC.2.1 _ _ _ _ (i + 1) dL_law_999 (by omega) ?_
  refine r_aload0 hR dL_law_1000 ?_
  refine r_iload3 hR dL_law_1001 ?_
  refine r_iconst hR (nI 2) (by decide) dL_law_1002 ?_
  refine r_iadd hR dL_law_1003 ?_
  try rw [nI_add]
  refine hC.2.1 _ _ _ _ (i + 2) dL_law_1004 (by omega) ?_
  refine g_callV hR (As := [.int (xs (i + 1)), .int (xs (i + 2))]) (st := []) kv_L_117 (by decide) rfl (t_X7_best hc hw) (fun s H locs q1 q2 q3 => g_recv q1 q2 (by decide) rfl rfl) rfl (Nat.le_of_ble_eq_true rfl) dL_law_1005 (fun v M1 hq => ?_)
  obtain ⟨rfl, hc1, hk1⟩ := hq
  show P _ _ [.int (oBest A (xs (i + 1)) (xs (i + 2))).1] M1
  refine r_aload2 hR dL_law_1008 ?_
  refine r_aload0 hR dL_law_1009 ?_
  refine r_iload3 hR dL_law_1010 ?_
  refine r_iconst hR (nI 1) (by decide) dL_law_1011 ?_
  refine r_iadd hR dL_law_1012 ?_
  try rw [nI_add]
  refine hC.2.1 _ _ _ _ (i + 1) dL_law_1013 (by omega) ?_
  refine r_aload0 hR dL_law_1014 ?_
  refine r_iload3 hR dL_law_1015 ?_
  refine r_iconst hR (nI 2) (by decide) dL_law_1016 ?_
  refine r_iadd hR dL_law_1017 ?_
  try rw [nI_add]
  refine hC.2.1 _ _ _ _ (i + 2) dL_law_1018 (by omega) ?_
  refine g_callV hR (As := [.int (xs (i + 1)), .int (xs (i + 2))]) (st := [.int (oBest A (xs (i + 1)) (xs (i + 2))).1]) kv_L_120 (by decide) rfl (t_X8_best (mdlP_keepM hk1 hm) hw) (fun s H locs q1 q2 q3 => g_recv q1 q2 (by decide) rfl rfl) rfl (Nat.le_of_ble_eq_true rfl) dL_law_1019 (fun v M2 hq => ?_)
  obtain ⟨rfl, hm2, hk2⟩ := hq
  show P _ _ [.int (oBest A (xs (i + 1)) (xs (i + 2))).1, .int (oBest A (xs (i + 1)) (xs (i + 2))).1] M2
  refine r_icmp_eq hR 1440 dL_law_1022 (by decide) (fun c1022 => ?_) (fun c1022 => absurd rfl c1022)
  exact k M2 (oBest A (xs (i + 1)) (xs (i + 2))).2 (clsP_keepC hk2 hc1) hm2 (w_Best hw)
set_option maxHeartbeats 4000000 in
set_option maxRecDepth 100000 in
theorem l_feed {G : gG} {b L : Nat} {xs : Nat → Int32} {P : gP} (hC : LwC G b L xs P) {i : Nat} {M : gM} {A : gA} (hi : i + 6 ≤ L) (hc : clsP M A) (hm : mdlP M A) (hw : wfA A) (k : ∀ (M' : gM) (A' : gA), clsP M' A' → mdlP M' A' → wfA A' → P 1440 [some (.ref b), some (.ref (ad G 0 0)), some (.ref (ad G 15 0)), some (.int (nI i))] [] M') : P 1027 [some (.ref b), some (.ref (ad G 0 0)), some (.ref (ad G 15 0)), some (.int (nI i))] [] M := by
  have hR := hC.1
  refine r_aload1 hR dL_law_1027 ?_
  refine r_aload0 hR dL_law_1028 ?_
  refine r_iload3 hR dL_law_1029 ?_
  refine r_iconst hR (nI 1) (by decide) dL_law_1030 ?_
  refine r_iadd hR dL_law_1031 ?_
  try rw [nI_add]
  refine hC.2.1 _ _ _ _ (i + 1) dL_law_1032 (by omega) ?_
  refine r_aload0 hR dL_law_1033 ?_
  refine r_iload3 hR dL_law_1034 ?_
  refine r_iconst hR (nI 2) (by decide) dL_law_1035 ?_
  refine r_iadd hR dL_law_1036 ?_
  try rw [nI_add]
  refine hC.2.1 _ _ _ _ (i + 2) dL_law_1037 (by omega) ?_
  refine g_callV hR (As := [.int (xs (i + 1)), .int (xs (i + 2))]) (st := []) kv_L_121 (by decide) rfl (t_X7_feed hc hw) (fun s H locs q1 q2 q3 => g_recv q1 q2 (by decide) rfl rfl) rfl (Nat.le_of_ble_eq_true rfl) dL_law_1038 (fun v M1 hq => ?_)
  obtain ⟨rfl, hc1, hk1⟩ := hq
  show P _ _ [.int (oFeed A (xs (i + 1)) (xs (i + 2))).1] M1
  refine r_aload2 hR dL_law_1041 ?_
  refine r_aload0 hR dL_law_1042 ?_
  refine r_iload3 hR dL_law_1043 ?_
  refine r_iconst hR (nI 1) (by decide) dL_law_1044 ?_
  refine r_iadd hR dL_law_1045 ?_
  try rw [nI_add]
  refine hC.2.1 _ _ _ _ (i + 1) dL_law_1046 (by omega) ?_
  refine r_aload0 hR dL_law_1047 ?_
  refine r_iload3 hR dL_law_1048 ?_
  refine r_iconst hR (nI 2) (by decide) dL_law_1049 ?_
  refine r_iadd hR dL_law_1050 ?_
  try rw [nI_add]
  refine hC.2.1 _ _ _ _ (i + 2) dL_law_1051 (by omega) ?_
  refine g_callV hR (As := [.int (xs (i + 1)), .int (xs (i + 2))]) (st := [.int (oFeed A (xs (i + 1)) (xs (i + 2))).1]) kv_L_124 (by decide) rfl (t_X8_feed (mdlP_keepM hk1 hm) hw) (fun s H locs q1 q2 q3 => g_recv q1 q2 (by decide) rfl rfl) rfl (Nat.le_of_ble_eq_true rfl) dL_law_1052 (fun v M2 hq => ?_)
  obtain ⟨rfl, hm2, hk2⟩ := hq
  show P _ _ [.int (oFeed A (xs (i + 1)) (xs (i + 2))).1, .int (oFeed A (xs (i + 1)) (xs (i + 2))).1] M2
  refine r_icmp_eq hR 1440 dL_law_1055 (by decide) (fun c1055 => ?_) (fun c1055 => absurd rfl c1055)
  exact k M2 (oFeed A (xs (i + 1)) (xs (i + 2))).2 (clsP_keepC hk2 hc1) hm2 (w_Feed hw)
set_option maxHeartbeats 4000000 in
set_option maxRecDepth 100000 in
theorem l_wipe {G : gG} {b L : Nat} {xs : Nat → Int32} {P : gP} (hC : LwC G b L xs P) {i : Nat} {M : gM} {A : gA} (hi : i + 6 ≤ L) (hc : clsP M A) (hm : mdlP M A) (hw : wfA A) (k : ∀ (M' : gM) (A' : gA), clsP M' A' → mdlP M' A' → wfA A' → P 1440 [some (.ref b), some (.ref (ad G 0 0)), some (.ref (ad G 15 0)), some (.int (nI i))] [] M') : P 1060 [some (.ref b), some (.ref (ad G 0 0)), some (.ref (ad G 15 0)), some (.int (nI i))] [] M := by
  have hR := hC.1
  refine r_aload1 hR dL_law_1060 ?_
  refine g_callV hR (As := []) (st := []) kv_L_125 (by decide) rfl (t_X7_wipe hc hw) (fun s H locs q1 q2 q3 => g_recv q1 q2 (by decide) rfl rfl) rfl (Nat.le_of_ble_eq_true rfl) dL_law_1061 (fun v M1 hq => ?_)
  obtain ⟨rfl, hc1, hk1⟩ := hq
  show P _ _ [.int (oWipe A).1] M1
  refine r_aload2 hR dL_law_1064 ?_
  refine g_callV hR (As := []) (st := [.int (oWipe A).1]) kv_L_129 (by decide) rfl (t_X8_wipe (mdlP_keepM hk1 hm) hw) (fun s H locs q1 q2 q3 => g_recv q1 q2 (by decide) rfl rfl) rfl (Nat.le_of_ble_eq_true rfl) dL_law_1065 (fun v M2 hq => ?_)
  obtain ⟨rfl, hm2, hk2⟩ := hq
  show P _ _ [.int (oWipe A).1, .int (oWipe A).1] M2
  refine r_icmp_eq hR 1440 dL_law_1068 (by decide) (fun c1068 => ?_) (fun c1068 => absurd rfl c1068)
  exact k M2 (oWipe A).2 (clsP_keepC hk2 hc1) hm2 (w_Wipe hw)
set_option maxHeartbeats 4000000 in
set_option maxRecDepth 100000 in
theorem l_sea {G : gG} {b L : Nat} {xs : Nat → Int32} {P : gP} (hC : LwC G b L xs P) {i : Nat} {M : gM} {A : gA} (hi : i + 6 ≤ L) (hc : clsP M A) (hm : mdlP M A) (hw : wfA A) (k : ∀ (M' : gM) (A' : gA), clsP M' A' → mdlP M' A' → wfA A' → P 1440 [some (.ref b), some (.ref (ad G 0 0)), some (.ref (ad G 15 0)), some (.int (nI i))] [] M') : P 1073 [some (.ref b), some (.ref (ad G 0 0)), some (.ref (ad G 15 0)), some (.int (nI i))] [] M := by
  have hR := hC.1
  refine r_aload1 hR dL_law_1073 ?_
  refine g_callV hR (As := []) (st := []) kv_L_130 (by decide) rfl (t_X7_sea hc hw) (fun s H locs q1 q2 q3 => g_recv q1 q2 (by decide) rfl rfl) rfl (Nat.le_of_ble_eq_true rfl) dL_law_1074 (fun v M1 hq => ?_)
  obtain ⟨rfl, hc1, hk1⟩ := hq
  show P _ _ [.int (oSea A).1] M1
  refine r_aload2 hR dL_law_1077 ?_
  refine g_callV hR (As := []) (st := [.int (oSea A).1]) kv_L_133 (by decide) rfl (t_X8_sea (mdlP_keepM hk1 hm) hw) (fun s H locs q1 q2 q3 => g_recv q1 q2 (by decide) rfl rfl) rfl (Nat.le_of_ble_eq_true rfl) dL_law_1078 (fun v M2 hq => ?_)
  obtain ⟨rfl, hm2, hk2⟩ := hq
  show P _ _ [.int (oSea A).1, .int (oSea A).1] M2
  refine r_icmp_eq hR 1440 dL_law_1081 (by decide) (fun c1081 => ?_) (fun c1081 => absurd rfl c1081)
  exact k M2 (oSea A).2 (clsP_keepC hk2 hc1) hm2 (w_Sea hw)
set_option maxHeartbeats 4000000 in
set_option maxRecDepth 100000 in
theorem l_sheet {G : gG} {b L : Nat} {xs : Nat → Int32} {P : gP} (hC : LwC G b L xs P) {i : Nat} {M : gM} {A : gA} (hi : i + 6 ≤ L) (hc : clsP M A) (hm : mdlP M A) (hw : wfA A) (k : ∀ (M' : gM) (A' : gA), clsP M' A' → mdlP M' A' → wfA A' → P 1440 [some (.ref b), some (.ref (ad G 0 0)), some (.ref (ad G 15 0)), some (.int (nI i))] [] M') : P 1086 [some (.ref b), some (.ref (ad G 0 0)), some (.ref (ad G 15 0)), some (.int (nI i))] [] M := by
  have hR := hC.1
  refine r_aload1 hR dL_law_1086 ?_
  refine r_aload0 hR dL_law_1087 ?_
  refine r_iload3 hR dL_law_1088 ?_
  refine r_iconst hR (nI 1) (by decide) dL_law_1089 ?_
  refine r_iadd hR dL_law_1090 ?_
  try rw [nI_add]
  refine hC.2.1 _ _ _ _ (i + 1) dL_law_1091 (by omega) ?_
  refine r_aload0 hR dL_law_1092 ?_
  refine r_iload3 hR dL_law_1093 ?_
  refine r_iconst hR (nI 2) (by decide) dL_law_1094 ?_
  refine r_iadd hR dL_law_1095 ?_
  try rw [nI_add]
  refine hC.2.1 _ _ _ _ (i + 2) dL_law_1096 (by omega) ?_
  refine r_aload0 hR dL_law_1097 ?_
  refine r_iload3 hR dL_law_1098 ?_
  refine r_iconst hR (nI 3) (by decide) dL_law_1099 ?_
  refine r_iadd hR dL_law_1100 ?_
  try rw [nI_add]
  refine hC.2.1 _ _ _ _ (i + 3) dL_law_1101 (by omega) ?_
  refine g_callV hR (As := [.int (xs (i + 1)), .int (xs (i + 2)), .int (xs (i + 3))]) (st := []) kv_L_134 (by decide) rfl (t_X7_sheet hc hw) (fun s H locs q1 q2 q3 => g_recv q1 q2 (by decide) rfl rfl) rfl (Nat.le_of_ble_eq_true rfl) dL_law_1102 (fun v M1 hq => ?_)
  obtain ⟨rfl, hc1, hk1⟩ := hq
  show P _ _ [.int (oSheet A (xs (i + 1)) (xs (i + 2)) (xs (i + 3))).1] M1
  refine r_aload2 hR dL_law_1105 ?_
  refine r_aload0 hR dL_law_1106 ?_
  refine r_iload3 hR dL_law_1107 ?_
  refine r_iconst hR (nI 1) (by decide) dL_law_1108 ?_
  refine r_iadd hR dL_law_1109 ?_
  try rw [nI_add]
  refine hC.2.1 _ _ _ _ (i + 1) dL_law_1110 (by omega) ?_
  refine r_aload0 hR dL_law_1111 ?_
  refine r_iload3 hR dL_law_1112 ?_
  refine r_iconst hR (nI 2) (by decide) dL_law_1113 ?_
  refine r_iadd hR dL_law_1114 ?_
  try rw [nI_add]
  refine hC.2.1 _ _ _ _ (i + 2) dL_law_1115 (by omega) ?_
  refine r_aload0 hR dL_law_1116 ?_
  refine r_iload3 hR dL_law_1117 ?_
  refine r_iconst hR (nI 3) (by decide) dL_law_1118 ?_
  refine r_iadd hR dL_law_1119 ?_
  try rw [nI_add]
  refine hC.2.1 _ _ _ _ (i + 3) dL_law_1120 (by omega) ?_
  refine g_callV hR (As := [.int (xs (i + 1)), .int (xs (i + 2)), .int (xs (i + 3))]) (st := [.int (oSheet A (xs (i + 1)) (xs (i + 2)) (xs (i + 3))).1]) kv_L_137 (by decide) rfl (t_X8_sheet (mdlP_keepM hk1 hm) hw) (fun s H locs q1 q2 q3 => g_recv q1 q2 (by decide) rfl rfl) rfl (Nat.le_of_ble_eq_true rfl) dL_law_1121 (fun v M2 hq => ?_)
  obtain ⟨rfl, hm2, hk2⟩ := hq
  show P _ _ [.int (oSheet A (xs (i + 1)) (xs (i + 2)) (xs (i + 3))).1, .int (oSheet A (xs (i + 1)) (xs (i + 2)) (xs (i + 3))).1] M2
  refine r_icmp_eq hR 1440 dL_law_1124 (by decide) (fun c1124 => ?_) (fun c1124 => absurd rfl c1124)
  exact k M2 (oSheet A (xs (i + 1)) (xs (i + 2)) (xs (i + 3))).2 (clsP_keepC hk2 hc1) hm2 (w_Sheet hw)
set_option maxHeartbeats 4000000 in
set_option maxRecDepth 100000 in
theorem l_write {G : gG} {b L : Nat} {xs : Nat → Int32} {P : gP} (hC : LwC G b L xs P) {i : Nat} {M : gM} {A : gA} (hi : i + 6 ≤ L) (hc : clsP M A) (hm : mdlP M A) (hw : wfA A) (k : ∀ (M' : gM) (A' : gA), clsP M' A' → mdlP M' A' → wfA A' → P 1440 [some (.ref b), some (.ref (ad G 0 0)), some (.ref (ad G 15 0)), some (.int (nI i))] [] M') : P 1129 [some (.ref b), some (.ref (ad G 0 0)), some (.ref (ad G 15 0)), some (.int (nI i))] [] M := by
  have hR := hC.1
  refine r_aload1 hR dL_law_1129 ?_
  refine r_aload0 hR dL_law_1130 ?_
  refine r_iload3 hR dL_law_1131 ?_
  refine r_iconst hR (nI 1) (by decide) dL_law_1132 ?_
  refine r_iadd hR dL_law_1133 ?_
  try rw [nI_add]
  refine hC.2.1 _ _ _ _ (i + 1) dL_law_1134 (by omega) ?_
  refine r_aload0 hR dL_law_1135 ?_
  refine r_iload3 hR dL_law_1136 ?_
  refine r_iconst hR (nI 2) (by decide) dL_law_1137 ?_
  refine r_iadd hR dL_law_1138 ?_
  try rw [nI_add]
  refine hC.2.1 _ _ _ _ (i + 2) dL_law_1139 (by omega) ?_
  refine r_aload0 hR dL_law_1140 ?_
  refine r_iload3 hR dL_law_1141 ?_
  refine r_iconst hR (nI 3) (by decide) dL_law_1142 ?_
  refine r_iadd hR dL_law_1143 ?_
  try rw [nI_add]
  refine hC.2.1 _ _ _ _ (i + 3) dL_law_1144 (by omega) ?_
  refine r_i2l hR dL_law_1145 ?_
  refine r_bipush hR (nI 32) (by decide) dL_law_1146 ?_
  refine r_lshl hR dL_law_1148 ?_
  refine r_aload0 hR dL_law_1149 ?_
  refine r_iload3 hR dL_law_1150 ?_
  refine r_iconst hR (nI 4) (by decide) dL_law_1151 ?_
  refine r_iadd hR dL_law_1152 ?_
  try rw [nI_add]
  refine hC.2.1 _ _ _ _ (i + 4) dL_law_1153 (by omega) ?_
  refine r_i2l hR dL_law_1154 ?_
  refine r_ldc2 hR ct_L_138 dL_law_1155 ?_
  refine r_land hR dL_law_1158 ?_
  refine r_lor hR dL_law_1159 ?_
  refine g_callV hR (As := [.int (xs (i + 1)), .int (xs (i + 2)), .long (((xs (i + 3)).toInt64 <<< ((nI 32).toInt64 &&& 63)) ||| ((xs (i + 4)).toInt64 &&& 4294967295))]) (st := []) kv_L_140 (by decide) rfl (t_X7_write hc hw) (fun s H locs q1 q2 q3 => g_recv q1 q2 (by decide) rfl rfl) rfl (Nat.le_of_ble_eq_true rfl) dL_law_1160 (fun v M1 hq => ?_)
  obtain ⟨rfl, hc1, hk1⟩ := hq
  show P _ _ [.long (oWrite A (xs (i + 1)) (xs (i + 2)) (((xs (i + 3)).toInt64 <<< ((nI 32).toInt64 &&& 63)) ||| ((xs (i + 4)).toInt64 &&& 4294967295))).1] M1
  refine r_aload2 hR dL_law_1163 ?_
  refine r_aload0 hR dL_law_1164 ?_
  refine r_iload3 hR dL_law_1165 ?_
  refine r_iconst hR (nI 1) (by decide) dL_law_1166 ?_
  refine r_iadd hR dL_law_1167 ?_
  try rw [nI_add]
  refine hC.2.1 _ _ _ _ (i + 1) dL_law_1168 (by omega) ?_
  refine r_aload0 hR dL_law_1169 ?_
  refine r_iload3 hR dL_law_1170 ?_
  refine r_iconst hR (nI 2) (by decide) dL_law_1171 ?_
  refine r_iadd hR dL_law_1172 ?_
  try rw [nI_add]
  refine hC.2.1 _ _ _ _ (i + 2) dL_law_1173 (by omega) ?_
  refine r_aload0 hR dL_law_1174 ?_
  refine r_iload3 hR dL_law_1175 ?_
  refine r_iconst hR (nI 3) (by decide) dL_law_1176 ?_
  refine r_iadd hR dL_law_1177 ?_
  try rw [nI_add]
  refine hC.2.1 _ _ _ _ (i + 3) dL_law_1178 (by omega) ?_
  refine r_i2l hR dL_law_1179 ?_
  refine r_bipush hR (nI 32) (by decide) dL_law_1180 ?_
  refine r_lshl hR dL_law_1182 ?_
  refine r_aload0 hR dL_law_1183 ?_
  refine r_iload3 hR dL_law_1184 ?_
  refine r_iconst hR (nI 4) (by decide) dL_law_1185 ?_
  refine r_iadd hR dL_law_1186 ?_
  try rw [nI_add]
  refine hC.2.1 _ _ _ _ (i + 4) dL_law_1187 (by omega) ?_
  refine r_i2l hR dL_law_1188 ?_
  refine r_ldc2 hR ct_L_138 dL_law_1189 ?_
  refine r_land hR dL_law_1192 ?_
  refine r_lor hR dL_law_1193 ?_
  refine g_callV hR (As := [.int (xs (i + 1)), .int (xs (i + 2)), .long (((xs (i + 3)).toInt64 <<< ((nI 32).toInt64 &&& 63)) ||| ((xs (i + 4)).toInt64 &&& 4294967295))]) (st := [.long (oWrite A (xs (i + 1)) (xs (i + 2)) (((xs (i + 3)).toInt64 <<< ((nI 32).toInt64 &&& 63)) ||| ((xs (i + 4)).toInt64 &&& 4294967295))).1]) kv_L_144 (by decide) rfl (t_X8_write (mdlP_keepM hk1 hm) hw) (fun s H locs q1 q2 q3 => g_recv q1 q2 (by decide) rfl rfl) rfl (Nat.le_of_ble_eq_true rfl) dL_law_1194 (fun v M2 hq => ?_)
  obtain ⟨rfl, hm2, hk2⟩ := hq
  show P _ _ [.long (oWrite A (xs (i + 1)) (xs (i + 2)) (((xs (i + 3)).toInt64 <<< ((nI 32).toInt64 &&& 63)) ||| ((xs (i + 4)).toInt64 &&& 4294967295))).1, .long (oWrite A (xs (i + 1)) (xs (i + 2)) (((xs (i + 3)).toInt64 <<< ((nI 32).toInt64 &&& 63)) ||| ((xs (i + 4)).toInt64 &&& 4294967295))).1] M2
  refine r_lcmp hR dL_law_1197 ?_
  refine r_if_eq hR 1440 dL_law_1198 (by decide) (fun c1198 => ?_) (fun c1198 => absurd (lc_eq.mpr rfl) c1198)
  exact k M2 (oWrite A (xs (i + 1)) (xs (i + 2)) (((xs (i + 3)).toInt64 <<< ((nI 32).toInt64 &&& 63)) ||| ((xs (i + 4)).toInt64 &&& 4294967295))).2 (clsP_keepC hk2 hc1) hm2 (w_Write hw)
set_option maxHeartbeats 4000000 in
set_option maxRecDepth 100000 in
theorem l_copy {G : gG} {b L : Nat} {xs : Nat → Int32} {P : gP} (hC : LwC G b L xs P) {i : Nat} {M : gM} {A : gA} (hi : i + 6 ≤ L) (hc : clsP M A) (hm : mdlP M A) (hw : wfA A) (k : ∀ (M' : gM) (A' : gA), clsP M' A' → mdlP M' A' → wfA A' → P 1440 [some (.ref b), some (.ref (ad G 0 0)), some (.ref (ad G 15 0)), some (.int (nI i))] [] M') : P 1203 [some (.ref b), some (.ref (ad G 0 0)), some (.ref (ad G 15 0)), some (.int (nI i))] [] M := by
  have hR := hC.1
  refine r_aload1 hR dL_law_1203 ?_
  refine r_aload0 hR dL_law_1204 ?_
  refine r_iload3 hR dL_law_1205 ?_
  refine r_iconst hR (nI 1) (by decide) dL_law_1206 ?_
  refine r_iadd hR dL_law_1207 ?_
  try rw [nI_add]
  refine hC.2.1 _ _ _ _ (i + 1) dL_law_1208 (by omega) ?_
  refine r_aload0 hR dL_law_1209 ?_
  refine r_iload3 hR dL_law_1210 ?_
  refine r_iconst hR (nI 2) (by decide) dL_law_1211 ?_
  refine r_iadd hR dL_law_1212 ?_
  try rw [nI_add]
  refine hC.2.1 _ _ _ _ (i + 2) dL_law_1213 (by omega) ?_
  refine r_aload0 hR dL_law_1214 ?_
  refine r_iload3 hR dL_law_1215 ?_
  refine r_iconst hR (nI 3) (by decide) dL_law_1216 ?_
  refine r_iadd hR dL_law_1217 ?_
  try rw [nI_add]
  refine hC.2.1 _ _ _ _ (i + 3) dL_law_1218 (by omega) ?_
  refine r_aload0 hR dL_law_1219 ?_
  refine r_iload3 hR dL_law_1220 ?_
  refine r_iconst hR (nI 4) (by decide) dL_law_1221 ?_
  refine r_iadd hR dL_law_1222 ?_
  try rw [nI_add]
  refine hC.2.1 _ _ _ _ (i + 4) dL_law_1223 (by omega) ?_
  refine r_aload0 hR dL_law_1224 ?_
  refine r_iload3 hR dL_law_1225 ?_
  refine r_iconst hR (nI 5) (by decide) dL_law_1226 ?_
  refine r_iadd hR dL_law_1227 ?_
  try rw [nI_add]
  refine hC.2.1 _ _ _ _ (i + 5) dL_law_1228 (by omega) ?_
  refine g_callV hR (As := [.int (xs (i + 1)), .int (xs (i + 2)), .int (xs (i + 3)), .int (xs (i + 4)), .int (xs (i + 5))]) (st := []) kv_L_145 (by decide) rfl (t_X7_copy hc hw) (fun s H locs q1 q2 q3 => g_recv q1 q2 (by decide) rfl rfl) rfl (Nat.le_of_ble_eq_true rfl) dL_law_1229 (fun v M1 hq => ?_)
  obtain ⟨rfl, hc1, hk1⟩ := hq
  show P _ _ [.int (oCopy A (xs (i + 1)) (xs (i + 2)) (xs (i + 3)) (xs (i + 4)) (xs (i + 5))).1] M1
  refine r_aload2 hR dL_law_1232 ?_
  refine r_aload0 hR dL_law_1233 ?_
  refine r_iload3 hR dL_law_1234 ?_
  refine r_iconst hR (nI 1) (by decide) dL_law_1235 ?_
  refine r_iadd hR dL_law_1236 ?_
  try rw [nI_add]
  refine hC.2.1 _ _ _ _ (i + 1) dL_law_1237 (by omega) ?_
  refine r_aload0 hR dL_law_1238 ?_
  refine r_iload3 hR dL_law_1239 ?_
  refine r_iconst hR (nI 2) (by decide) dL_law_1240 ?_
  refine r_iadd hR dL_law_1241 ?_
  try rw [nI_add]
  refine hC.2.1 _ _ _ _ (i + 2) dL_law_1242 (by omega) ?_
  refine r_aload0 hR dL_law_1243 ?_
  refine r_iload3 hR dL_law_1244 ?_
  refine r_iconst hR (nI 3) (by decide) dL_law_1245 ?_
  refine r_iadd hR dL_law_1246 ?_
  try rw [nI_add]
  refine hC.2.1 _ _ _ _ (i + 3) dL_law_1247 (by omega) ?_
  refine r_aload0 hR dL_law_1248 ?_
  refine r_iload3 hR dL_law_1249 ?_
  refine r_iconst hR (nI 4) (by decide) dL_law_1250 ?_
  refine r_iadd hR dL_law_1251 ?_
  try rw [nI_add]
  refine hC.2.1 _ _ _ _ (i + 4) dL_law_1252 (by omega) ?_
  refine r_aload0 hR dL_law_1253 ?_
  refine r_iload3 hR dL_law_1254 ?_
  refine r_iconst hR (nI 5) (by decide) dL_law_1255 ?_
  refine r_iadd hR dL_law_1256 ?_
  try rw [nI_add]
  refine hC.2.1 _ _ _ _ (i + 5) dL_law_1257 (by omega) ?_
  refine g_callV hR (As := [.int (xs (i + 1)), .int (xs (i + 2)), .int (xs (i + 3)), .int (xs (i + 4)), .int (xs (i + 5))]) (st := [.int (oCopy A (xs (i + 1)) (xs (i + 2)) (xs (i + 3)) (xs (i + 4)) (xs (i + 5))).1]) kv_L_149 (by decide) rfl (t_X8_copy (mdlP_keepM hk1 hm) hw) (fun s H locs q1 q2 q3 => g_recv q1 q2 (by decide) rfl rfl) rfl (Nat.le_of_ble_eq_true rfl) dL_law_1258 (fun v M2 hq => ?_)
  obtain ⟨rfl, hm2, hk2⟩ := hq
  show P _ _ [.int (oCopy A (xs (i + 1)) (xs (i + 2)) (xs (i + 3)) (xs (i + 4)) (xs (i + 5))).1, .int (oCopy A (xs (i + 1)) (xs (i + 2)) (xs (i + 3)) (xs (i + 4)) (xs (i + 5))).1] M2
  refine r_icmp_eq hR 1440 dL_law_1261 (by decide) (fun c1261 => ?_) (fun c1261 => absurd rfl c1261)
  exact k M2 (oCopy A (xs (i + 1)) (xs (i + 2)) (xs (i + 3)) (xs (i + 4)) (xs (i + 5))).2 (clsP_keepC hk2 hc1) hm2 (w_Copy hw)
set_option maxHeartbeats 4000000 in
set_option maxRecDepth 100000 in
theorem l_lays {G : gG} {b L : Nat} {xs : Nat → Int32} {P : gP} (hC : LwC G b L xs P) {i : Nat} {M : gM} {A : gA} (hi : i + 6 ≤ L) (hc : clsP M A) (hm : mdlP M A) (hw : wfA A) (k : ∀ (M' : gM) (A' : gA), clsP M' A' → mdlP M' A' → wfA A' → P 1440 [some (.ref b), some (.ref (ad G 0 0)), some (.ref (ad G 15 0)), some (.int (nI i))] [] M') : P 1266 [some (.ref b), some (.ref (ad G 0 0)), some (.ref (ad G 15 0)), some (.int (nI i))] [] M := by
  have hR := hC.1
  refine r_aload1 hR dL_law_1266 ?_
  refine r_aload0 hR dL_law_1267 ?_
  refine r_iload3 hR dL_law_1268 ?_
  refine r_iconst hR (nI 1) (by decide) dL_law_1269 ?_
  refine r_iadd hR dL_law_1270 ?_
  try rw [nI_add]
  refine hC.2.1 _ _ _ _ (i + 1) dL_law_1271 (by omega) ?_
  refine g_callV hR (As := [.int (xs (i + 1))]) (st := []) kv_L_150 (by decide) rfl (t_X7_lays hc hw) (fun s H locs q1 q2 q3 => g_recv q1 q2 (by decide) rfl rfl) rfl (Nat.le_of_ble_eq_true rfl) dL_law_1272 (fun v M1 hq => ?_)
  obtain ⟨rfl, hc1, hk1⟩ := hq
  show P _ _ [.int (oLays A (xs (i + 1))).1] M1
  refine r_aload2 hR dL_law_1275 ?_
  refine r_aload0 hR dL_law_1276 ?_
  refine r_iload3 hR dL_law_1277 ?_
  refine r_iconst hR (nI 1) (by decide) dL_law_1278 ?_
  refine r_iadd hR dL_law_1279 ?_
  try rw [nI_add]
  refine hC.2.1 _ _ _ _ (i + 1) dL_law_1280 (by omega) ?_
  refine g_callV hR (As := [.int (xs (i + 1))]) (st := [.int (oLays A (xs (i + 1))).1]) kv_L_153 (by decide) rfl (t_X8_lays (mdlP_keepM hk1 hm) hw) (fun s H locs q1 q2 q3 => g_recv q1 q2 (by decide) rfl rfl) rfl (Nat.le_of_ble_eq_true rfl) dL_law_1281 (fun v M2 hq => ?_)
  obtain ⟨rfl, hm2, hk2⟩ := hq
  show P _ _ [.int (oLays A (xs (i + 1))).1, .int (oLays A (xs (i + 1))).1] M2
  refine r_icmp_eq hR 1440 dL_law_1284 (by decide) (fun c1284 => ?_) (fun c1284 => absurd rfl c1284)
  exact k M2 (oLays A (xs (i + 1))).2 (clsP_keepC hk2 hc1) hm2 (w_Lays hw)
set_option maxHeartbeats 4000000 in
set_option maxRecDepth 100000 in
theorem l_book {G : gG} {b L : Nat} {xs : Nat → Int32} {P : gP} (hC : LwC G b L xs P) {i : Nat} {M : gM} {A : gA} (hi : i + 6 ≤ L) (hc : clsP M A) (hm : mdlP M A) (hw : wfA A) (k : ∀ (M' : gM) (A' : gA), clsP M' A' → mdlP M' A' → wfA A' → P 1440 [some (.ref b), some (.ref (ad G 0 0)), some (.ref (ad G 15 0)), some (.int (nI i))] [] M') : P 1289 [some (.ref b), some (.ref (ad G 0 0)), some (.ref (ad G 15 0)), some (.int (nI i))] [] M := by
  have hR := hC.1
  refine r_aload1 hR dL_law_1289 ?_
  refine r_aload0 hR dL_law_1290 ?_
  refine r_iload3 hR dL_law_1291 ?_
  refine r_iconst hR (nI 1) (by decide) dL_law_1292 ?_
  refine r_iadd hR dL_law_1293 ?_
  try rw [nI_add]
  refine hC.2.1 _ _ _ _ (i + 1) dL_law_1294 (by omega) ?_
  refine r_aload0 hR dL_law_1295 ?_
  refine r_iload3 hR dL_law_1296 ?_
  refine r_iconst hR (nI 2) (by decide) dL_law_1297 ?_
  refine r_iadd hR dL_law_1298 ?_
  try rw [nI_add]
  refine hC.2.1 _ _ _ _ (i + 2) dL_law_1299 (by omega) ?_
  refine g_callV hR (As := [.int (xs (i + 1)), .int (xs (i + 2))]) (st := []) kv_L_154 (by decide) rfl (t_X7_book hc hw) (fun s H locs q1 q2 q3 => g_recv q1 q2 (by decide) rfl rfl) rfl (Nat.le_of_ble_eq_true rfl) dL_law_1300 (fun v M1 hq => ?_)
  obtain ⟨rfl, hc1, hk1⟩ := hq
  show P _ _ [.int (oBook A (xs (i + 1)) (xs (i + 2))).1] M1
  refine r_aload2 hR dL_law_1303 ?_
  refine r_aload0 hR dL_law_1304 ?_
  refine r_iload3 hR dL_law_1305 ?_
  refine r_iconst hR (nI 1) (by decide) dL_law_1306 ?_
  refine r_iadd hR dL_law_1307 ?_
  try rw [nI_add]
  refine hC.2.1 _ _ _ _ (i + 1) dL_law_1308 (by omega) ?_
  refine r_aload0 hR dL_law_1309 ?_
  refine r_iload3 hR dL_law_1310 ?_
  refine r_iconst hR (nI 2) (by decide) dL_law_1311 ?_
  refine r_iadd hR dL_law_1312 ?_
  try rw [nI_add]
  refine hC.2.1 _ _ _ _ (i + 2) dL_law_1313 (by omega) ?_
  refine g_callV hR (As := [.int (xs (i + 1)), .int (xs (i + 2))]) (st := [.int (oBook A (xs (i + 1)) (xs (i + 2))).1]) kv_L_157 (by decide) rfl (t_X8_book (mdlP_keepM hk1 hm) hw) (fun s H locs q1 q2 q3 => g_recv q1 q2 (by decide) rfl rfl) rfl (Nat.le_of_ble_eq_true rfl) dL_law_1314 (fun v M2 hq => ?_)
  obtain ⟨rfl, hm2, hk2⟩ := hq
  show P _ _ [.int (oBook A (xs (i + 1)) (xs (i + 2))).1, .int (oBook A (xs (i + 1)) (xs (i + 2))).1] M2
  refine r_icmp_eq hR 1440 dL_law_1317 (by decide) (fun c1317 => ?_) (fun c1317 => absurd rfl c1317)
  exact k M2 (oBook A (xs (i + 1)) (xs (i + 2))).2 (clsP_keepC hk2 hc1) hm2 (w_Book hw)
set_option maxHeartbeats 4000000 in
set_option maxRecDepth 100000 in
theorem l_read {G : gG} {b L : Nat} {xs : Nat → Int32} {P : gP} (hC : LwC G b L xs P) {i : Nat} {M : gM} {A : gA} (hi : i + 6 ≤ L) (hc : clsP M A) (hm : mdlP M A) (hw : wfA A) (k : ∀ (M' : gM) (A' : gA), clsP M' A' → mdlP M' A' → wfA A' → P 1440 [some (.ref b), some (.ref (ad G 0 0)), some (.ref (ad G 15 0)), some (.int (nI i))] [] M') : P 1322 [some (.ref b), some (.ref (ad G 0 0)), some (.ref (ad G 15 0)), some (.int (nI i))] [] M := by
  have hR := hC.1
  refine r_aload1 hR dL_law_1322 ?_
  refine r_aload0 hR dL_law_1323 ?_
  refine r_iload3 hR dL_law_1324 ?_
  refine r_iconst hR (nI 1) (by decide) dL_law_1325 ?_
  refine r_iadd hR dL_law_1326 ?_
  try rw [nI_add]
  refine hC.2.1 _ _ _ _ (i + 1) dL_law_1327 (by omega) ?_
  refine r_aload0 hR dL_law_1328 ?_
  refine r_iload3 hR dL_law_1329 ?_
  refine r_iconst hR (nI 2) (by decide) dL_law_1330 ?_
  refine r_iadd hR dL_law_1331 ?_
  try rw [nI_add]
  refine hC.2.1 _ _ _ _ (i + 2) dL_law_1332 (by omega) ?_
  refine g_callV hR (As := [.int (xs (i + 1)), .int (xs (i + 2))]) (st := []) kv_L_158 (by decide) rfl (t_X7_read hc hw) (fun s H locs q1 q2 q3 => g_recv q1 q2 (by decide) rfl rfl) rfl (Nat.le_of_ble_eq_true rfl) dL_law_1333 (fun v M1 hq => ?_)
  obtain ⟨rfl, hc1, hk1⟩ := hq
  show P _ _ [.int (oRead A (xs (i + 1)) (xs (i + 2))).1] M1
  refine r_aload2 hR dL_law_1336 ?_
  refine r_aload0 hR dL_law_1337 ?_
  refine r_iload3 hR dL_law_1338 ?_
  refine r_iconst hR (nI 1) (by decide) dL_law_1339 ?_
  refine r_iadd hR dL_law_1340 ?_
  try rw [nI_add]
  refine hC.2.1 _ _ _ _ (i + 1) dL_law_1341 (by omega) ?_
  refine r_aload0 hR dL_law_1342 ?_
  refine r_iload3 hR dL_law_1343 ?_
  refine r_iconst hR (nI 2) (by decide) dL_law_1344 ?_
  refine r_iadd hR dL_law_1345 ?_
  try rw [nI_add]
  refine hC.2.1 _ _ _ _ (i + 2) dL_law_1346 (by omega) ?_
  refine g_callV hR (As := [.int (xs (i + 1)), .int (xs (i + 2))]) (st := [.int (oRead A (xs (i + 1)) (xs (i + 2))).1]) kv_L_161 (by decide) rfl (t_X8_read (mdlP_keepM hk1 hm) hw) (fun s H locs q1 q2 q3 => g_recv q1 q2 (by decide) rfl rfl) rfl (Nat.le_of_ble_eq_true rfl) dL_law_1347 (fun v M2 hq => ?_)
  obtain ⟨rfl, hm2, hk2⟩ := hq
  show P _ _ [.int (oRead A (xs (i + 1)) (xs (i + 2))).1, .int (oRead A (xs (i + 1)) (xs (i + 2))).1] M2
  refine r_icmp_eq hR 1440 dL_law_1350 (by decide) (fun c1350 => ?_) (fun c1350 => absurd rfl c1350)
  exact k M2 (oRead A (xs (i + 1)) (xs (i + 2))).2 (clsP_keepC hk2 hc1) hm2 (w_Read hw)
set_option maxHeartbeats 4000000 in
set_option maxRecDepth 100000 in
theorem l_image {G : gG} {b L : Nat} {xs : Nat → Int32} {P : gP} (hC : LwC G b L xs P) {i : Nat} {M : gM} {A : gA} (hi : i + 6 ≤ L) (hc : clsP M A) (hm : mdlP M A) (hw : wfA A) (k : ∀ (M' : gM) (A' : gA), clsP M' A' → mdlP M' A' → wfA A' → P 1440 [some (.ref b), some (.ref (ad G 0 0)), some (.ref (ad G 15 0)), some (.int (nI i))] [] M') : P 1355 [some (.ref b), some (.ref (ad G 0 0)), some (.ref (ad G 15 0)), some (.int (nI i))] [] M := by
  have hR := hC.1
  refine r_aload1 hR dL_law_1355 ?_
  refine g_callV hR (As := []) (st := []) kv_L_162 (by decide) rfl (t_X7_image hc hw) (fun s H locs q1 q2 q3 => g_recv q1 q2 (by decide) rfl rfl) rfl (Nat.le_of_ble_eq_true rfl) dL_law_1356 (fun v M1 hq => ?_)
  obtain ⟨rfl, hc1, hk1⟩ := hq
  show P _ _ [.int (oImage A).1] M1
  refine r_aload2 hR dL_law_1359 ?_
  refine g_callV hR (As := []) (st := [.int (oImage A).1]) kv_L_165 (by decide) rfl (t_X8_image (mdlP_keepM hk1 hm) hw) (fun s H locs q1 q2 q3 => g_recv q1 q2 (by decide) rfl rfl) rfl (Nat.le_of_ble_eq_true rfl) dL_law_1360 (fun v M2 hq => ?_)
  obtain ⟨rfl, hm2, hk2⟩ := hq
  show P _ _ [.int (oImage A).1, .int (oImage A).1] M2
  refine r_icmp_eq hR 1440 dL_law_1363 (by decide) (fun c1363 => ?_) (fun c1363 => absurd rfl c1363)
  exact k M2 (oImage A).2 (clsP_keepC hk2 hc1) hm2 (w_Image hw)
set_option maxHeartbeats 4000000 in
set_option maxRecDepth 100000 in
theorem l_undo {G : gG} {b L : Nat} {xs : Nat → Int32} {P : gP} (hC : LwC G b L xs P) {i : Nat} {M : gM} {A : gA} (hi : i + 6 ≤ L) (hc : clsP M A) (hm : mdlP M A) (hw : wfA A) (k : ∀ (M' : gM) (A' : gA), clsP M' A' → mdlP M' A' → wfA A' → P 1440 [some (.ref b), some (.ref (ad G 0 0)), some (.ref (ad G 15 0)), some (.int (nI i))] [] M') : P 1368 [some (.ref b), some (.ref (ad G 0 0)), some (.ref (ad G 15 0)), some (.int (nI i))] [] M := by
  have hR := hC.1
  refine r_aload1 hR dL_law_1368 ?_
  refine g_callV hR (As := []) (st := []) kv_L_166 (by decide) rfl (t_X7_undo hc hw) (fun s H locs q1 q2 q3 => g_recv q1 q2 (by decide) rfl rfl) rfl (Nat.le_of_ble_eq_true rfl) dL_law_1369 (fun v M1 hq => ?_)
  obtain ⟨rfl, hc1, hk1⟩ := hq
  show P _ _ [.int (oUndo A).1] M1
  refine r_aload2 hR dL_law_1372 ?_
  refine g_callV hR (As := []) (st := [.int (oUndo A).1]) kv_L_169 (by decide) rfl (t_X8_undo (mdlP_keepM hk1 hm) hw) (fun s H locs q1 q2 q3 => g_recv q1 q2 (by decide) rfl rfl) rfl (Nat.le_of_ble_eq_true rfl) dL_law_1373 (fun v M2 hq => ?_)
  obtain ⟨rfl, hm2, hk2⟩ := hq
  show P _ _ [.int (oUndo A).1, .int (oUndo A).1] M2
  refine r_icmp_eq hR 1440 dL_law_1376 (by decide) (fun c1376 => ?_) (fun c1376 => absurd rfl c1376)
  exact k M2 (oUndo A).2 (clsP_keepC hk2 hc1) hm2 (w_Undo hw)
set_option maxHeartbeats 4000000 in
set_option maxRecDepth 100000 in
theorem l_tear {G : gG} {b L : Nat} {xs : Nat → Int32} {P : gP} (hC : LwC G b L xs P) {i : Nat} {M : gM} {A : gA} (hi : i + 6 ≤ L) (hc : clsP M A) (hm : mdlP M A) (hw : wfA A) (k : ∀ (M' : gM) (A' : gA), clsP M' A' → mdlP M' A' → wfA A' → P 1440 [some (.ref b), some (.ref (ad G 0 0)), some (.ref (ad G 15 0)), some (.int (nI i))] [] M') : P 1381 [some (.ref b), some (.ref (ad G 0 0)), some (.ref (ad G 15 0)), some (.int (nI i))] [] M := by
  have hR := hC.1
  refine r_aload1 hR dL_law_1381 ?_
  refine g_callV hR (As := []) (st := []) kv_L_170 (by decide) rfl (t_X7_tear hc hw) (fun s H locs q1 q2 q3 => g_recv q1 q2 (by decide) rfl rfl) rfl (Nat.le_of_ble_eq_true rfl) dL_law_1382 (fun v M1 hq => ?_)
  obtain ⟨rfl, hc1, hk1⟩ := hq
  show P _ _ [.int (oTear A).1] M1
  refine r_aload2 hR dL_law_1385 ?_
  refine g_callV hR (As := []) (st := [.int (oTear A).1]) kv_L_173 (by decide) rfl (t_X8_tear (mdlP_keepM hk1 hm) hw) (fun s H locs q1 q2 q3 => g_recv q1 q2 (by decide) rfl rfl) rfl (Nat.le_of_ble_eq_true rfl) dL_law_1386 (fun v M2 hq => ?_)
  obtain ⟨rfl, hm2, hk2⟩ := hq
  show P _ _ [.int (oTear A).1, .int (oTear A).1] M2
  refine r_icmp_eq hR 1440 dL_law_1389 (by decide) (fun c1389 => ?_) (fun c1389 => absurd rfl c1389)
  exact k M2 (oTear A).2 (clsP_keepC hk2 hc1) hm2 (w_Tear hw)
set_option maxHeartbeats 4000000 in
set_option maxRecDepth 100000 in
theorem l_count {G : gG} {b L : Nat} {xs : Nat → Int32} {P : gP} (hC : LwC G b L xs P) {i : Nat} {M : gM} {A : gA} (hi : i + 6 ≤ L) (hc : clsP M A) (hm : mdlP M A) (hw : wfA A) (k : ∀ (M' : gM) (A' : gA), clsP M' A' → mdlP M' A' → wfA A' → P 1440 [some (.ref b), some (.ref (ad G 0 0)), some (.ref (ad G 15 0)), some (.int (nI i))] [] M') : P 1394 [some (.ref b), some (.ref (ad G 0 0)), some (.ref (ad G 15 0)), some (.int (nI i))] [] M := by
  have hR := hC.1
  refine r_aload1 hR dL_law_1394 ?_
  refine r_aload0 hR dL_law_1395 ?_
  refine r_iload3 hR dL_law_1396 ?_
  refine r_iconst hR (nI 1) (by decide) dL_law_1397 ?_
  refine r_iadd hR dL_law_1398 ?_
  try rw [nI_add]
  refine hC.2.1 _ _ _ _ (i + 1) dL_law_1399 (by omega) ?_
  refine g_callV hR (As := [.int (xs (i + 1))]) (st := []) kv_L_174 (by decide) rfl (t_X7_count hc hw) (fun s H locs q1 q2 q3 => g_recv q1 q2 (by decide) rfl rfl) rfl (Nat.le_of_ble_eq_true rfl) dL_law_1400 (fun v M1 hq => ?_)
  obtain ⟨rfl, hc1, hk1⟩ := hq
  show P _ _ [.int (oCount A (xs (i + 1))).1] M1
  refine r_aload2 hR dL_law_1403 ?_
  refine r_aload0 hR dL_law_1404 ?_
  refine r_iload3 hR dL_law_1405 ?_
  refine r_iconst hR (nI 1) (by decide) dL_law_1406 ?_
  refine r_iadd hR dL_law_1407 ?_
  try rw [nI_add]
  refine hC.2.1 _ _ _ _ (i + 1) dL_law_1408 (by omega) ?_
  refine g_callV hR (As := [.int (xs (i + 1))]) (st := [.int (oCount A (xs (i + 1))).1]) kv_L_177 (by decide) rfl (t_X8_count (mdlP_keepM hk1 hm) hw) (fun s H locs q1 q2 q3 => g_recv q1 q2 (by decide) rfl rfl) rfl (Nat.le_of_ble_eq_true rfl) dL_law_1409 (fun v M2 hq => ?_)
  obtain ⟨rfl, hm2, hk2⟩ := hq
  show P _ _ [.int (oCount A (xs (i + 1))).1, .int (oCount A (xs (i + 1))).1] M2
  refine r_icmp_eq hR 1440 dL_law_1412 (by decide) (fun c1412 => ?_) (fun c1412 => absurd rfl c1412)
  exact k M2 (oCount A (xs (i + 1))).2 (clsP_keepC hk2 hc1) hm2 (w_Count hw)
set_option maxHeartbeats 4000000 in
set_option maxRecDepth 100000 in
theorem l_status {G : gG} {b L : Nat} {xs : Nat → Int32} {P : gP} (hC : LwC G b L xs P) {i : Nat} {M : gM} {A : gA} (hi : i + 6 ≤ L) (hc : clsP M A) (hm : mdlP M A) (hw : wfA A) (k : ∀ (M' : gM) (A' : gA), clsP M' A' → mdlP M' A' → wfA A' → P 1440 [some (.ref b), some (.ref (ad G 0 0)), some (.ref (ad G 15 0)), some (.int (nI i))] [] M') : P 1417 [some (.ref b), some (.ref (ad G 0 0)), some (.ref (ad G 15 0)), some (.int (nI i))] [] M := by
  have hR := hC.1
  refine r_aload1 hR dL_law_1417 ?_
  refine r_aload0 hR dL_law_1418 ?_
  refine r_iload3 hR dL_law_1419 ?_
  refine r_iconst hR (nI 1) (by decide) dL_law_1420 ?_
  refine r_iadd hR dL_law_1421 ?_
  try rw [nI_add]
  refine hC.2.1 _ _ _ _ (i + 1) dL_law_1422 (by omega) ?_
  refine g_callV hR (As := [.int (xs (i + 1))]) (st := []) kv_L_178 (by decide) rfl (t_X7_status hc hw) (fun s H locs q1 q2 q3 => g_recv q1 q2 (by decide) rfl rfl) rfl (Nat.le_of_ble_eq_true rfl) dL_law_1423 (fun v M1 hq => ?_)
  obtain ⟨rfl, hc1, hk1⟩ := hq
  show P _ _ [.int (oStatus A (xs (i + 1))).1] M1
  refine r_aload2 hR dL_law_1426 ?_
  refine r_aload0 hR dL_law_1427 ?_
  refine r_iload3 hR dL_law_1428 ?_
  refine r_iconst hR (nI 1) (by decide) dL_law_1429 ?_
  refine r_iadd hR dL_law_1430 ?_
  try rw [nI_add]
  refine hC.2.1 _ _ _ _ (i + 1) dL_law_1431 (by omega) ?_
  refine g_callV hR (As := [.int (xs (i + 1))]) (st := [.int (oStatus A (xs (i + 1))).1]) kv_L_181 (by decide) rfl (t_X8_status (mdlP_keepM hk1 hm) hw) (fun s H locs q1 q2 q3 => g_recv q1 q2 (by decide) rfl rfl) rfl (Nat.le_of_ble_eq_true rfl) dL_law_1432 (fun v M2 hq => ?_)
  obtain ⟨rfl, hm2, hk2⟩ := hq
  show P _ _ [.int (oStatus A (xs (i + 1))).1, .int (oStatus A (xs (i + 1))).1] M2
  refine r_icmp_eq hR 1440 dL_law_1435 (by decide) (fun c1435 => ?_) (fun c1435 => absurd rfl c1435)
  exact k M2 (oStatus A (xs (i + 1))).2 (clsP_keepC hk2 hc1) hm2 (w_Status hw)
set_option maxHeartbeats 4000000 in
set_option maxRecDepth 100000 in
theorem law_loop {G : gG} {b L : Nat} {xs : Nat → Int32} {P : gP} (hC : LwC G b L xs P) (hL : L ≤ 3072) : ∀ (n i : Nat) (M : gM) (A : gA), L ≤ i + 6 * n → i ≤ 3078 → clsP M A → mdlP M A → wfA A → P 18 [some (.ref b), some (.ref (ad G 0 0)), some (.ref (ad G 15 0)), some (.int (nI i))] [] M := by
  have hR := hC.1
  have hsub : (nI L - nI 6).toInt = (L : Int) - (6 : Nat) := pk_sub_toInt (by omega) (by omega)
  intro n
  induction n with
  | zero =>
    intro i M A hn hi3 hc hm hw
    refine r_iload3 hR dL_law_18 ?_
    refine r_aload0 hR dL_law_19 ?_
    refine hC.2.2 _ _ _ _ dL_law_20 ?_
    refine r_bipush hR (nI 6) (by decide) dL_law_21 ?_
    refine r_isub hR dL_law_23 ?_
    refine r_icmp_gt hR 1446 dL_law_24 (by decide) (fun c24 => ?_) (fun c24 => ?_)
    · try simp (disch := omega) only [nI_ltI, nI_leI, nI_eq, bI_0, Decidable.not_not, lc_lt, lc_gt, lc_ge, lc_le, lc_eq, i64_toInt] at c24
      try simp (disch := omega) only [cv_lt, cv_le, cv_eq, nI_toInt, cv_0] at c24
      first
      | omega
      | refine r_iconst hR (nI 1) (by decide) dL_law_1446 ?_
        refine r_zret hR dL_law_1447 rfl ?_
        rfl
    · try simp (disch := omega) only [nI_ltI, nI_leI, nI_eq, bI_0, Decidable.not_not, lc_lt, lc_gt, lc_ge, lc_le, lc_eq, i64_toInt] at c24
      try simp (disch := omega) only [cv_lt, cv_le, cv_eq, nI_toInt, cv_0] at c24
      first
      | omega
      | omega
  | succ n ih =>
    intro i M A hn hi3 hc hm hw
    refine r_iload3 hR dL_law_18 ?_
    refine r_aload0 hR dL_law_19 ?_
    refine hC.2.2 _ _ _ _ dL_law_20 ?_
    refine r_bipush hR (nI 6) (by decide) dL_law_21 ?_
    refine r_isub hR dL_law_23 ?_
    refine r_icmp_gt hR 1446 dL_law_24 (by decide) (fun c24 => ?_) (fun c24 => ?_)
    · try simp (disch := omega) only [nI_ltI, nI_leI, nI_eq, bI_0, Decidable.not_not, lc_lt, lc_gt, lc_ge, lc_le, lc_eq, i64_toInt] at c24
      try simp (disch := omega) only [cv_lt, cv_le, cv_eq, nI_toInt, cv_0] at c24
      first
      | omega
      | refine r_iconst hR (nI 1) (by decide) dL_law_1446 ?_
        refine r_zret hR dL_law_1447 rfl ?_
        rfl
    · try simp (disch := omega) only [nI_ltI, nI_leI, nI_eq, bI_0, Decidable.not_not, lc_lt, lc_gt, lc_ge, lc_le, lc_eq, i64_toInt] at c24
      try simp (disch := omega) only [cv_lt, cv_le, cv_eq, nI_toInt, cv_0] at c24
      first
      | omega
      | refine r_aload0 hR dL_law_27 ?_
        refine r_iload3 hR dL_law_28 ?_
        refine hC.2.1 _ _ _ _ i dL_law_29 (by omega) ?_
        refine r_bipush hR (nI 63) (by decide) dL_law_30 ?_
        refine r_iand hR dL_law_32 ?_
        obtain ⟨kk, hkk, ekk⟩ := pk_andE (xs i) (m := nI 63) 6 (by decide)
        rw [ekk]
        have k40 : ∀ (M' : gM) (A' : gA), clsP M' A' → mdlP M' A' → wfA A' → P 1440 [some (.ref b), some (.ref (ad G 0 0)), some (.ref (ad G 15 0)), some (.int (nI i))] [] M' := by
          intro M' A' hc' hm' hw'
          refine r_iinc3 hR (nI 6) (by decide) (fun _ h => by first | (cases h; rfl) | exact absurd h (by simp)) dL_law_1440 ?_
          try rw [nI_add]
          refine r_goto hR 18 dL_law_1443 (by decide) ?_
          exact ih (i + 6) M' A' (by omega) (by omega) hc' hm' hw'
        by_cases e0 : kk = 0
        · exact r_swInN hR 0 e0 (by decide) 208 dL_law_33 (by decide) (by decide) rfl (by decide) (l_rota hC (by omega) hc hm hw k40)
        by_cases e1 : kk = 1
        · exact r_swInN hR 1 e1 (by decide) 241 dL_law_33 (by decide) (by decide) rfl (by decide) (l_rotaOf hC (by omega) hc hm hw k40)
        by_cases e2 : kk = 2
        · exact r_swInN hR 2 e2 (by decide) 264 dL_law_33 (by decide) (by decide) rfl (by decide) (l_sick hC (by omega) hc hm hw k40)
        by_cases e3 : kk = 3
        · exact r_swInN hR 3 e3 (by decide) 297 dL_law_33 (by decide) (by decide) rfl (by decide) (l_force hC (by omega) hc hm hw k40)
        by_cases e4 : kk = 4
        · exact r_swInN hR 4 e4 (by decide) 320 dL_law_33 (by decide) (by decide) rfl (by decide) (l_blows hC (by omega) hc hm hw k40)
        by_cases e5 : kk = 5
        · exact r_swInN hR 5 e5 (by decide) 343 dL_law_33 (by decide) (by decide) rfl (by decide) (l_lee hC (by omega) hc hm hw k40)
        by_cases e6 : kk = 6
        · exact r_swInN hR 6 e6 (by decide) 376 dL_law_33 (by decide) (by decide) rfl (by decide) (l_thing hC (by omega) hc hm hw k40)
        by_cases e7 : kk = 7
        · exact r_swInN hR 7 e7 (by decide) 409 dL_law_33 (by decide) (by decide) rfl (by decide) (l_of hC (by omega) hc hm hw k40)
        by_cases e8 : kk = 8
        · exact r_swInN hR 8 e8 (by decide) 442 dL_law_33 (by decide) (by decide) rfl (by decide) (l_set hC (by omega) hc hm hw k40)
        by_cases e9 : kk = 9
        · exact r_swInN hR 9 e9 (by decide) 485 dL_law_33 (by decide) (by decide) rfl (by decide) (l_turn hC (by omega) hc hm hw k40)
        by_cases e10 : kk = 10
        · exact r_swInN hR 10 e10 (by decide) 518 dL_law_33 (by decide) (by decide) rfl (by decide) (l_as hC (by omega) hc hm hw k40)
        by_cases e11 : kk = 11
        · exact r_swInN hR 11 e11 (by decide) 551 dL_law_33 (by decide) (by decide) rfl (by decide) (l_days hC (by omega) hc hm hw k40)
        by_cases e12 : kk = 12
        · exact r_swInN hR 12 e12 (by decide) 574 dL_law_33 (by decide) (by decide) rfl (by decide) (l_bribe hC (by omega) hc hm hw k40)
        by_cases e13 : kk = 13
        · exact r_swInN hR 13 e13 (by decide) 597 dL_law_33 (by decide) (by decide) rfl (by decide) (l_now hC (by omega) hc hm hw k40)
        by_cases e14 : kk = 14
        · exact r_swInN hR 14 e14 (by decide) 620 dL_law_33 (by decide) (by decide) rfl (by decide) (l_on hC (by omega) hc hm hw k40)
        by_cases e15 : kk = 15
        · exact r_swInN hR 15 e15 (by decide) 663 dL_law_33 (by decide) (by decide) rfl (by decide) (l_comes hC (by omega) hc hm hw k40)
        by_cases e16 : kk = 16
        · exact r_swInN hR 16 e16 (by decide) 696 dL_law_33 (by decide) (by decide) rfl (by decide) (l_meet hC (by omega) hc hm hw k40)
        by_cases e17 : kk = 17
        · exact r_swInN hR 17 e17 (by decide) 729 dL_law_33 (by decide) (by decide) rfl (by decide) (l_bribes hC (by omega) hc hm hw k40)
        by_cases e18 : kk = 18
        · exact r_swInN hR 18 e18 (by decide) 772 dL_law_33 (by decide) (by decide) rfl (by decide) (l_soonest hC (by omega) hc hm hw k40)
        by_cases e19 : kk = 19
        · exact r_swInN hR 19 e19 (by decide) 815 dL_law_33 (by decide) (by decide) rfl (by decide) (l_reach hC (by omega) hc hm hw k40)
        by_cases e20 : kk = 20
        · exact r_swInN hR 20 e20 (by decide) 849 dL_law_33 (by decide) (by decide) rfl (by decide) (l_swap hC (by omega) hc hm hw k40)
        by_cases e21 : kk = 21
        · exact r_swInN hR 21 e21 (by decide) 872 dL_law_33 (by decide) (by decide) rfl (by decide) (l_missed hC (by omega) hc hm hw k40)
        by_cases e22 : kk = 22
        · exact r_swInN hR 22 e22 (by decide) 895 dL_law_33 (by decide) (by decide) rfl (by decide) (l_enough hC (by omega) hc hm hw k40)
        by_cases e23 : kk = 23
        · exact r_swInN hR 23 e23 (by decide) 928 dL_law_33 (by decide) (by decide) rfl (by decide) (l_kind hC (by omega) hc hm hw k40)
        by_cases e24 : kk = 24
        · exact r_swInN hR 24 e24 (by decide) 961 dL_law_33 (by decide) (by decide) rfl (by decide) (l_facing hC (by omega) hc hm hw k40)
        by_cases e25 : kk = 25
        · exact r_swInN hR 25 e25 (by decide) 994 dL_law_33 (by decide) (by decide) rfl (by decide) (l_best hC (by omega) hc hm hw k40)
        by_cases e26 : kk = 26
        · exact r_swInN hR 26 e26 (by decide) 1027 dL_law_33 (by decide) (by decide) rfl (by decide) (l_feed hC (by omega) hc hm hw k40)
        by_cases e27 : kk = 27
        · exact r_swInN hR 27 e27 (by decide) 1060 dL_law_33 (by decide) (by decide) rfl (by decide) (l_wipe hC (by omega) hc hm hw k40)
        by_cases e28 : kk = 28
        · exact r_swInN hR 28 e28 (by decide) 1073 dL_law_33 (by decide) (by decide) rfl (by decide) (l_sea hC (by omega) hc hm hw k40)
        by_cases e29 : kk = 29
        · exact r_swInN hR 29 e29 (by decide) 1086 dL_law_33 (by decide) (by decide) rfl (by decide) (l_sheet hC (by omega) hc hm hw k40)
        by_cases e30 : kk = 30
        · exact r_swInN hR 30 e30 (by decide) 1129 dL_law_33 (by decide) (by decide) rfl (by decide) (l_write hC (by omega) hc hm hw k40)
        by_cases e31 : kk = 31
        · exact r_swInN hR 31 e31 (by decide) 1203 dL_law_33 (by decide) (by decide) rfl (by decide) (l_copy hC (by omega) hc hm hw k40)
        by_cases e32 : kk = 32
        · exact r_swInN hR 32 e32 (by decide) 1266 dL_law_33 (by decide) (by decide) rfl (by decide) (l_lays hC (by omega) hc hm hw k40)
        by_cases e33 : kk = 33
        · exact r_swInN hR 33 e33 (by decide) 1289 dL_law_33 (by decide) (by decide) rfl (by decide) (l_book hC (by omega) hc hm hw k40)
        by_cases e34 : kk = 34
        · exact r_swInN hR 34 e34 (by decide) 1322 dL_law_33 (by decide) (by decide) rfl (by decide) (l_read hC (by omega) hc hm hw k40)
        by_cases e35 : kk = 35
        · exact r_swInN hR 35 e35 (by decide) 1355 dL_law_33 (by decide) (by decide) rfl (by decide) (l_image hC (by omega) hc hm hw k40)
        by_cases e36 : kk = 36
        · exact r_swInN hR 36 e36 (by decide) 1368 dL_law_33 (by decide) (by decide) rfl (by decide) (l_undo hC (by omega) hc hm hw k40)
        by_cases e37 : kk = 37
        · exact r_swInN hR 37 e37 (by decide) 1381 dL_law_33 (by decide) (by decide) rfl (by decide) (l_tear hC (by omega) hc hm hw k40)
        by_cases e38 : kk = 38
        · exact r_swInN hR 38 e38 (by decide) 1394 dL_law_33 (by decide) (by decide) rfl (by decide) (l_count hC (by omega) hc hm hw k40)
        by_cases e39 : kk = 39
        · exact r_swInN hR 39 e39 (by decide) 1417 dL_law_33 (by decide) (by decide) rfl (by decide) (l_status hC (by omega) hc hm hw k40)
        exact r_swOutN hR (k := kk) (by omega) 1440 dL_law_33 (by omega) (by decide) (k40 M A hc hm hw)
