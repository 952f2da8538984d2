/-! the law's walk: the cases of its switch -/
section CQY
variable {p : Program} {l : Launch} {e : Env} {s : State} {m : MethodId} {args : Array Value} {below : List Frame} {meth : Method} {c : Code} {D : va_G} {cA : Nat → ClassId} {X : cq_X} {Bs cells slots : Nat} {Q : State → Prop} {cc : ByteArray} {own : String} {Ts : List Cond} {pc : Nat} {L : List (Nat × Value)} {st : List Value} {M : cq_M}
set_option maxRecDepth 100000 in
set_option maxHeartbeats 4000000 in
theorem w9_case_0 (hl : l.stackTraces = false) {b0 N0 n b B : Nat} {S : as_T} {xs : Nat → Int32} (F : cq_F p s m args meth c D cA Bs 9 cL_law RL wsL_law) (hX : va_X b0 N0 xs s s.heap) (hbs : b0 < s.heap.size ∧ b0 < Bs) (hN : 4 * n + 4 ≤ N0 ∧ N0 ≤ 2048) (hb : cq_isClock X b) (hm : cq_isModel X (b + 249)) (ho : X.1 (b + 264) = 17) (hn : X.2.1 (b + 264) = 1) (h : ck M b S) (hc : cm M (b + 249) S) (hk : as_ok S B) (hB : B < 10000000) (hcs : cells ≤ 500000 ∧ slots ≤ 6000000) (kk : ∀ (S1 : as_T) (M1 : cq_M), ck M1 b S1 → cm M1 (b + 249) S1 → as_ok S1 (B + 4000) → cq_V p l e room_1 s m args below meth c D cA X Bs 9 (cells + 3) (slots + 20) Q 1702 [(0, .ref b0), (1, .ref b), (2, .ref (b + 249)), (3, .ref (b + 264)), (4, .int (nI (4 * n)))] [] M1) : cq_V p l e room_1 s m args below meth c D cA X Bs 9 cells slots Q 156 [(0, .ref b0), (1, .ref b), (2, .ref (b + 249)), (3, .ref (b + 264)), (4, .int (nI (4 * n)))] [] M := by
  refine cq_aload_n F (i := 1) dL_law_156 rfl rfl ?_
  refine w9_cell F hX hbs (n := n) (j := 1) rfl rfl ⟨by omega, by omega⟩ (by decide) dL_law_157 dL_law_158 dL_law_160 dL_law_161 dL_law_162 ?_
  refine w9_cell F hX hbs (n := n) (j := 2) rfl rfl ⟨by omega, by omega⟩ (by decide) dL_law_163 dL_law_164 dL_law_166 dL_law_167 dL_law_168 ?_
  refine cq_aload_n F (i := 3) dL_law_169 rfl rfl ?_
  refine cq_callX F (As := [.ref b, .int (xs (4 * n + 1)), .int (xs (4 * n + 2)), .ref (b + 264)]) (st := []) (kL_cord l hl D cA X Bs b B S (xs (4 * n + 1)) (xs (4 * n + 2)) (b + 264) M hb h hk ho hn (.inr (by omega)) (fun _ => ⟨_, (ao_cord (xs (4 * n + 1)) (xs (4 * n + 2)) hk)⟩)) (vx_cwSW 4 F.1.2.2.2.2 gL_law_L_cord rfl rfl rfl (by decide +kernel) ⟨Nat.le_of_ble_eq_true rfl, Nat.le_of_ble_eq_true rfl⟩) rfl (Nat.le_of_ble_eq_true rfl) dL_law_170 ⟨by show _ ≤ 601024; omega, by show _ ≤ 7293034; omega⟩ (cq_kI fun r M1 hw => ?_)
  obtain ⟨hr, ha, hck, hfr⟩ := hw
  have hcm : cm M1 (b + 249) S := hc.ext (fun x k1 k2 _ => hfr x (.inr (by omega)) (by omega)) (by rw [hfr _ (.inr (by omega)) (by omega)]) (by rw [hfr _ (.inr (by omega)) (by omega)])
  refine cq_istore F dL_law_173 (by decide) ?_
  refine cq_aload_n F (i := 2) dL_law_175 rfl rfl ?_
  refine w9_cell F hX hbs (n := n) (j := 1) rfl rfl ⟨by omega, by omega⟩ (by decide) dL_law_176 dL_law_177 dL_law_179 dL_law_180 dL_law_181 ?_
  refine w9_cell F hX hbs (n := n) (j := 2) rfl rfl ⟨by omega, by omega⟩ (by decide) dL_law_182 dL_law_183 dL_law_185 dL_law_186 dL_law_187 ?_
  refine cq_callV F (C := RX7) (ci := 8) (As := [.int (xs (4 * n + 1)), .int (xs (4 * n + 2))]) (st := []) (kX7_cord l D cA X Bs (b + 249) B S (xs (4 * n + 1)) (xs (4 * n + 2)) M1 hm hcm hk) (cwV 2 F.1.2.2.2.2 gL_law_X7_cord rfl rfl rfl hdVX7_cord ⟨Nat.le_of_ble_eq_true rfl, Nat.le_of_ble_eq_true rfl⟩) hm.kind ⟨by decide, by decide⟩ rfl rfl rfl (Nat.le_of_ble_eq_true rfl) dL_law_188 ⟨by show _ ≤ 601024; omega, by show _ ≤ 7293034; omega⟩ (cq_kI fun r2 M2 hq => ?_)
  obtain ⟨hth, hr2, hcm2, hfr2⟩ := hq
  refine cq_istore F dL_law_191 (by decide) ?_
  refine w9_tail F (q := (op_cord S (xs (4 * n + 1)) (xs (4 * n + 2)))) (o := b + 249) (ol := b + 264) (tg := 1702) hm ho hn rfl rfl rfl rfl (by unfold op_cord; repeat' (first | refine w9_ite ?_ ?_ | exact Nat.le_of_ble_eq_true rfl)) hr (fun z => by rw [hfr2 _ (.inr (by omega))]; exact ha z) hth hr2 dL_law_193 dL_law_194 dL_law_197 dL_law_199 dL_law_204 dL_law_206 dL_law_209 dL_law_210 dL_law_211 dL_law_212 dL_law_214 dL_law_215 dL_law_216 dL_law_221 (by decide) ⟨by omega, by omega⟩ ?_
  refine cq_widen (k := cells + 3) (n := slots + 20) (by omega) (by omega) ?_
  refine cq_loc (L2 := [(0, .ref b0), (1, .ref b), (2, .ref (b + 249)), (3, .ref (b + 264)), (4, .int (nI (4 * n)))]) rfl ?_
  exact kk _ M2 (hck.far (ao_cord (xs (4 * n + 1)) (xs (4 * n + 2)) hk) (fun x h1 h2 => hfr2 x (.inl (by omega)))) hcm2 (ao_cord (xs (4 * n + 1)) (xs (4 * n + 2)) hk)
set_option maxRecDepth 100000 in
set_option maxHeartbeats 4000000 in
theorem w9_case_1 (hl : l.stackTraces = false) {b0 N0 n b B : Nat} {S : as_T} {xs : Nat → Int32} (F : cq_F p s m args meth c D cA Bs 9 cL_law RL wsL_law) (hX : va_X b0 N0 xs s s.heap) (hbs : b0 < s.heap.size ∧ b0 < Bs) (hN : 4 * n + 4 ≤ N0 ∧ N0 ≤ 2048) (hb : cq_isClock X b) (hm : cq_isModel X (b + 249)) (ho : X.1 (b + 264) = 17) (hn : X.2.1 (b + 264) = 1) (h : ck M b S) (hc : cm M (b + 249) S) (hk : as_ok S B) (hB : B < 10000000) (hcs : cells ≤ 500000 ∧ slots ≤ 6000000) (kk : ∀ (S1 : as_T) (M1 : cq_M), ck M1 b S1 → cm M1 (b + 249) S1 → as_ok S1 (B + 4000) → cq_V p l e room_1 s m args below meth c D cA X Bs 9 (cells + 3) (slots + 20) Q 1702 [(0, .ref b0), (1, .ref b), (2, .ref (b + 249)), (3, .ref (b + 264)), (4, .int (nI (4 * n)))] [] M1) : cq_V p l e room_1 s m args below meth c D cA X Bs 9 cells slots Q 224 [(0, .ref b0), (1, .ref b), (2, .ref (b + 249)), (3, .ref (b + 264)), (4, .int (nI (4 * n)))] [] M := by
  refine cq_aload_n F (i := 1) dL_law_224 rfl rfl ?_
  refine w9_cell F hX hbs (n := n) (j := 1) rfl rfl ⟨by omega, by omega⟩ (by decide) dL_law_225 dL_law_226 dL_law_228 dL_law_229 dL_law_230 ?_
  refine w9_cell F hX hbs (n := n) (j := 2) rfl rfl ⟨by omega, by omega⟩ (by decide) dL_law_231 dL_law_232 dL_law_234 dL_law_235 dL_law_236 ?_
  refine w9_cell F hX hbs (n := n) (j := 3) rfl rfl ⟨by omega, by omega⟩ (by decide) dL_law_237 dL_law_238 dL_law_240 dL_law_241 dL_law_242 ?_
  refine cq_aload_n F (i := 3) dL_law_243 rfl rfl ?_
  refine cq_callX F (As := [.ref b, .int (xs (4 * n + 1)), .int (xs (4 * n + 2)), .int (xs (4 * n + 3)), .ref (b + 264)]) (st := []) (kL_uneven l hl D cA X Bs b B S (xs (4 * n + 1)) (xs (4 * n + 2)) (xs (4 * n + 3)) (b + 264) M hb h hk ho hn (.inr (by omega)) (fun _ => ⟨_, (ao_uneven (xs (4 * n + 1)) (xs (4 * n + 2)) (xs (4 * n + 3)) hk)⟩)) (vx_cwSW 5 F.1.2.2.2.2 gL_law_L_uneven rfl rfl rfl (by decide +kernel) ⟨Nat.le_of_ble_eq_true rfl, Nat.le_of_ble_eq_true rfl⟩) rfl (Nat.le_of_ble_eq_true rfl) dL_law_244 ⟨by show _ ≤ 601024; omega, by show _ ≤ 7293034; omega⟩ (cq_kI fun r M1 hw => ?_)
  obtain ⟨hr, ha, hck, hfr⟩ := hw
  have hcm : cm M1 (b + 249) S := hc.ext (fun x k1 k2 _ => hfr x (.inr (by omega)) (by omega)) (by rw [hfr _ (.inr (by omega)) (by omega)]) (by rw [hfr _ (.inr (by omega)) (by omega)])
  refine cq_istore F dL_law_247 (by decide) ?_
  refine cq_aload_n F (i := 2) dL_law_249 rfl rfl ?_
  refine w9_cell F hX hbs (n := n) (j := 1) rfl rfl ⟨by omega, by omega⟩ (by decide) dL_law_250 dL_law_251 dL_law_253 dL_law_254 dL_law_255 ?_
  refine w9_cell F hX hbs (n := n) (j := 2) rfl rfl ⟨by omega, by omega⟩ (by decide) dL_law_256 dL_law_257 dL_law_259 dL_law_260 dL_law_261 ?_
  refine w9_cell F hX hbs (n := n) (j := 3) rfl rfl ⟨by omega, by omega⟩ (by decide) dL_law_262 dL_law_263 dL_law_265 dL_law_266 dL_law_267 ?_
  refine cq_callV F (C := RX7) (ci := 8) (As := [.int (xs (4 * n + 1)), .int (xs (4 * n + 2)), .int (xs (4 * n + 3))]) (st := []) (kX7_uneven l D cA X Bs (b + 249) B S (xs (4 * n + 1)) (xs (4 * n + 2)) (xs (4 * n + 3)) M1 hm hcm hk) (cwV 3 F.1.2.2.2.2 gL_law_X7_uneven rfl rfl rfl hdVX7_uneven ⟨Nat.le_of_ble_eq_true rfl, Nat.le_of_ble_eq_true rfl⟩) hm.kind ⟨by decide, by decide⟩ rfl rfl rfl (Nat.le_of_ble_eq_true rfl) dL_law_268 ⟨by show _ ≤ 601024; omega, by show _ ≤ 7293034; omega⟩ (cq_kI fun r2 M2 hq => ?_)
  obtain ⟨hth, hr2, hcm2, hfr2⟩ := hq
  refine cq_istore F dL_law_271 (by decide) ?_
  refine w9_tail F (q := (op_uneven S (xs (4 * n + 1)) (xs (4 * n + 2)) (xs (4 * n + 3)))) (o := b + 249) (ol := b + 264) (tg := 1702) hm ho hn rfl rfl rfl rfl (by unfold op_uneven; repeat' (first | refine w9_ite ?_ ?_ | exact Nat.le_of_ble_eq_true rfl)) hr (fun z => by rw [hfr2 _ (.inr (by omega))]; exact ha z) hth hr2 dL_law_273 dL_law_274 dL_law_277 dL_law_279 dL_law_284 dL_law_286 dL_law_289 dL_law_290 dL_law_291 dL_law_292 dL_law_294 dL_law_295 dL_law_296 dL_law_301 (by decide) ⟨by omega, by omega⟩ ?_
  refine cq_widen (k := cells + 3) (n := slots + 20) (by omega) (by omega) ?_
  refine cq_loc (L2 := [(0, .ref b0), (1, .ref b), (2, .ref (b + 249)), (3, .ref (b + 264)), (4, .int (nI (4 * n)))]) rfl ?_
  exact kk _ M2 (hck.far (ao_uneven (xs (4 * n + 1)) (xs (4 * n + 2)) (xs (4 * n + 3)) hk) (fun x h1 h2 => hfr2 x (.inl (by omega)))) hcm2 (ao_uneven (xs (4 * n + 1)) (xs (4 * n + 2)) (xs (4 * n + 3)) hk)
set_option maxRecDepth 100000 in
set_option maxHeartbeats 4000000 in
theorem w9_case_2 (hl : l.stackTraces = false) {b0 N0 n b B : Nat} {S : as_T} {xs : Nat → Int32} (F : cq_F p s m args meth c D cA Bs 9 cL_law RL wsL_law) (hX : va_X b0 N0 xs s s.heap) (hbs : b0 < s.heap.size ∧ b0 < Bs) (hN : 4 * n + 4 ≤ N0 ∧ N0 ≤ 2048) (hb : cq_isClock X b) (hm : cq_isModel X (b + 249)) (ho : X.1 (b + 264) = 17) (hn : X.2.1 (b + 264) = 1) (h : ck M b S) (hc : cm M (b + 249) S) (hk : as_ok S B) (hB : B < 10000000) (hcs : cells ≤ 500000 ∧ slots ≤ 6000000) (kk : ∀ (S1 : as_T) (M1 : cq_M), ck M1 b S1 → cm M1 (b + 249) S1 → as_ok S1 (B + 4000) → cq_V p l e room_1 s m args below meth c D cA X Bs 9 (cells + 3) (slots + 20) Q 1702 [(0, .ref b0), (1, .ref b), (2, .ref (b + 249)), (3, .ref (b + 264)), (4, .int (nI (4 * n)))] [] M1) : cq_V p l e room_1 s m args below meth c D cA X Bs 9 cells slots Q 304 [(0, .ref b0), (1, .ref b), (2, .ref (b + 249)), (3, .ref (b + 264)), (4, .int (nI (4 * n)))] [] M := by
  refine cq_aload_n F (i := 1) dL_law_304 rfl rfl ?_
  refine w9_cell F hX hbs (n := n) (j := 1) rfl rfl ⟨by omega, by omega⟩ (by decide) dL_law_305 dL_law_306 dL_law_308 dL_law_309 dL_law_310 ?_
  refine cq_aload_n F (i := 3) dL_law_311 rfl rfl ?_
  refine cq_callX F (As := [.ref b, .int (xs (4 * n + 1)), .ref (b + 264)]) (st := []) (kL_renew l hl D cA X Bs b B S (xs (4 * n + 1)) (b + 264) M hb h hk ho hn (.inr (by omega)) (fun _ => ⟨_, (ao_renewed (xs (4 * n + 1)) hk)⟩)) (vx_cwSW 3 F.1.2.2.2.2 gL_law_L_renew rfl rfl rfl (by decide +kernel) ⟨Nat.le_of_ble_eq_true rfl, Nat.le_of_ble_eq_true rfl⟩) rfl (Nat.le_of_ble_eq_true rfl) dL_law_312 ⟨by show _ ≤ 601024; omega, by show _ ≤ 7293034; omega⟩ (cq_kI fun r M1 hw => ?_)
  obtain ⟨hr, ha, hck, hfr⟩ := hw
  have hcm : cm M1 (b + 249) S := hc.ext (fun x k1 k2 _ => hfr x (.inr (by omega)) (by omega)) (by rw [hfr _ (.inr (by omega)) (by omega)]) (by rw [hfr _ (.inr (by omega)) (by omega)])
  refine cq_istore F dL_law_315 (by decide) ?_
  refine cq_aload_n F (i := 2) dL_law_317 rfl rfl ?_
  refine w9_cell F hX hbs (n := n) (j := 1) rfl rfl ⟨by omega, by omega⟩ (by decide) dL_law_318 dL_law_319 dL_law_321 dL_law_322 dL_law_323 ?_
  refine cq_callV F (C := RX7) (ci := 8) (As := [.int (xs (4 * n + 1))]) (st := []) (kX7_renew l D cA X Bs (b + 249) B S (xs (4 * n + 1)) M1 hm hcm hk) (cwV 1 F.1.2.2.2.2 gL_law_X7_renew rfl rfl rfl hdVX7_renew ⟨Nat.le_of_ble_eq_true rfl, Nat.le_of_ble_eq_true rfl⟩) hm.kind ⟨by decide, by decide⟩ rfl rfl rfl (Nat.le_of_ble_eq_true rfl) dL_law_324 ⟨by show _ ≤ 601024; omega, by show _ ≤ 7293034; omega⟩ (cq_kI fun r2 M2 hq => ?_)
  obtain ⟨hth, hr2, hcm2, hfr2⟩ := hq
  refine cq_istore F dL_law_327 (by decide) ?_
  refine w9_tail F (q := (op_renew S (xs (4 * n + 1)))) (o := b + 249) (ol := b + 264) (tg := 1702) hm ho hn rfl rfl rfl rfl (by unfold op_renew; repeat' (first | refine w9_ite ?_ ?_ | exact Nat.le_of_ble_eq_true rfl)) hr (fun z => by rw [hfr2 _ (.inr (by omega))]; exact ha z) hth hr2 dL_law_329 dL_law_330 dL_law_333 dL_law_335 dL_law_340 dL_law_342 dL_law_345 dL_law_346 dL_law_347 dL_law_348 dL_law_350 dL_law_351 dL_law_352 dL_law_357 (by decide) ⟨by omega, by omega⟩ ?_
  refine cq_widen (k := cells + 3) (n := slots + 20) (by omega) (by omega) ?_
  refine cq_loc (L2 := [(0, .ref b0), (1, .ref b), (2, .ref (b + 249)), (3, .ref (b + 264)), (4, .int (nI (4 * n)))]) rfl ?_
  exact kk _ M2 (hck.far (ao_renewed (xs (4 * n + 1)) hk) (fun x h1 h2 => hfr2 x (.inl (by omega)))) hcm2 (ao_renewed (xs (4 * n + 1)) hk)
set_option maxRecDepth 100000 in
set_option maxHeartbeats 4000000 in
theorem w9_case_3 (hl : l.stackTraces = false) {b0 N0 n b B : Nat} {S : as_T} {xs : Nat → Int32} (F : cq_F p s m args meth c D cA Bs 9 cL_law RL wsL_law) (hX : va_X b0 N0 xs s s.heap) (hbs : b0 < s.heap.size ∧ b0 < Bs) (hN : 4 * n + 4 ≤ N0 ∧ N0 ≤ 2048) (hb : cq_isClock X b) (hm : cq_isModel X (b + 249)) (ho : X.1 (b + 264) = 17) (hn : X.2.1 (b + 264) = 1) (h : ck M b S) (hc : cm M (b + 249) S) (hk : as_ok S B) (hB : B < 10000000) (hcs : cells ≤ 500000 ∧ slots ≤ 6000000) (kk : ∀ (S1 : as_T) (M1 : cq_M), ck M1 b S1 → cm M1 (b + 249) S1 → as_ok S1 (B + 4000) → cq_V p l e room_1 s m args below meth c D cA X Bs 9 (cells + 3) (slots + 20) Q 1702 [(0, .ref b0), (1, .ref b), (2, .ref (b + 249)), (3, .ref (b + 264)), (4, .int (nI (4 * n)))] [] M1) : cq_V p l e room_1 s m args below meth c D cA X Bs 9 cells slots Q 360 [(0, .ref b0), (1, .ref b), (2, .ref (b + 249)), (3, .ref (b + 264)), (4, .int (nI (4 * n)))] [] M := by
  refine cq_aload_n F (i := 1) dL_law_360 rfl rfl ?_
  refine w9_cell F hX hbs (n := n) (j := 1) rfl rfl ⟨by omega, by omega⟩ (by decide) dL_law_361 dL_law_362 dL_law_364 dL_law_365 dL_law_366 ?_
  refine w9_cell F hX hbs (n := n) (j := 2) rfl rfl ⟨by omega, by omega⟩ (by decide) dL_law_367 dL_law_368 dL_law_370 dL_law_371 dL_law_372 ?_
  refine w9_bool F dL_law_373 dL_law_376 dL_law_377 dL_law_380 ?_
  refine cq_aload_n F (i := 3) dL_law_381 rfl rfl ?_
  refine cq_callX F (As := [.ref b, .int (xs (4 * n + 1)), .int (nI (w9_b (xs (4 * n + 2)))), .ref (b + 264)]) (st := []) (kL_light l hl D cA X Bs b B S (xs (4 * n + 1)) (nI (w9_b (xs (4 * n + 2)))) (b + 264) M hb h hk ho hn (.inr (by omega)) (fun _ => ⟨_, (ao_light (xs (4 * n + 1)) (nI (w9_b (xs (4 * n + 2)))) hk)⟩)) (vx_cwSW 4 F.1.2.2.2.2 gL_law_L_light rfl rfl rfl (by decide +kernel) ⟨Nat.le_of_ble_eq_true rfl, Nat.le_of_ble_eq_true rfl⟩) rfl (Nat.le_of_ble_eq_true rfl) dL_law_382 ⟨by show _ ≤ 601024; omega, by show _ ≤ 7293034; omega⟩ (cq_kI fun r M1 hw => ?_)
  obtain ⟨hr, ha, hck, hfr⟩ := hw
  have hcm : cm M1 (b + 249) S := hc.ext (fun x k1 k2 _ => hfr x (.inr (by omega)) (by omega)) (by rw [hfr _ (.inr (by omega)) (by omega)]) (by rw [hfr _ (.inr (by omega)) (by omega)])
  refine cq_istore F dL_law_385 (by decide) ?_
  refine cq_aload_n F (i := 2) dL_law_387 rfl rfl ?_
  refine w9_cell F hX hbs (n := n) (j := 1) rfl rfl ⟨by omega, by omega⟩ (by decide) dL_law_388 dL_law_389 dL_law_391 dL_law_392 dL_law_393 ?_
  refine w9_cell F hX hbs (n := n) (j := 2) rfl rfl ⟨by omega, by omega⟩ (by decide) dL_law_394 dL_law_395 dL_law_397 dL_law_398 dL_law_399 ?_
  refine w9_bool F dL_law_400 dL_law_403 dL_law_404 dL_law_407 ?_
  refine cq_callV F (C := RX7) (ci := 8) (As := [.int (xs (4 * n + 1)), .int (nI (w9_b (xs (4 * n + 2))))]) (st := []) (kX7_light l D cA X Bs (b + 249) B S (xs (4 * n + 1)) (nI (w9_b (xs (4 * n + 2)))) M1 hm hcm hk) (cwV 2 F.1.2.2.2.2 gL_law_X7_light rfl rfl rfl hdVX7_light ⟨Nat.le_of_ble_eq_true rfl, Nat.le_of_ble_eq_true rfl⟩) hm.kind ⟨by decide, by decide⟩ rfl rfl rfl (Nat.le_of_ble_eq_true rfl) dL_law_408 ⟨by show _ ≤ 601024; omega, by show _ ≤ 7293034; omega⟩ (cq_kI fun r2 M2 hq => ?_)
  obtain ⟨hth, hr2, hcm2, hfr2⟩ := hq
  refine cq_istore F dL_law_411 (by decide) ?_
  refine w9_tail F (q := (op_light S (xs (4 * n + 1)) (nI (w9_b (xs (4 * n + 2)))))) (o := b + 249) (ol := b + 264) (tg := 1702) hm ho hn rfl rfl rfl rfl (by unfold op_light; repeat' (first | refine w9_ite ?_ ?_ | exact Nat.le_of_ble_eq_true rfl)) hr (fun z => by rw [hfr2 _ (.inr (by omega))]; exact ha z) hth hr2 dL_law_413 dL_law_414 dL_law_417 dL_law_419 dL_law_424 dL_law_426 dL_law_429 dL_law_430 dL_law_431 dL_law_432 dL_law_434 dL_law_435 dL_law_436 dL_law_441 (by decide) ⟨by omega, by omega⟩ ?_
  refine cq_widen (k := cells + 3) (n := slots + 20) (by omega) (by omega) ?_
  refine cq_loc (L2 := [(0, .ref b0), (1, .ref b), (2, .ref (b + 249)), (3, .ref (b + 264)), (4, .int (nI (4 * n)))]) rfl ?_
  exact kk _ M2 (hck.far (ao_light (xs (4 * n + 1)) (nI (w9_b (xs (4 * n + 2)))) hk) (fun x h1 h2 => hfr2 x (.inl (by omega)))) hcm2 (ao_light (xs (4 * n + 1)) (nI (w9_b (xs (4 * n + 2)))) hk)
set_option maxRecDepth 100000 in
set_option maxHeartbeats 4000000 in
theorem w9_case_4 (hl : l.stackTraces = false) {b0 N0 n b B : Nat} {S : as_T} {xs : Nat → Int32} (F : cq_F p s m args meth c D cA Bs 9 cL_law RL wsL_law) (hX : va_X b0 N0 xs s s.heap) (hbs : b0 < s.heap.size ∧ b0 < Bs) (hN : 4 * n + 4 ≤ N0 ∧ N0 ≤ 2048) (hb : cq_isClock X b) (hm : cq_isModel X (b + 249)) (ho : X.1 (b + 264) = 17) (hn : X.2.1 (b + 264) = 1) (h : ck M b S) (hc : cm M (b + 249) S) (hk : as_ok S B) (hB : B < 10000000) (hcs : cells ≤ 500000 ∧ slots ≤ 6000000) (kk : ∀ (S1 : as_T) (M1 : cq_M), ck M1 b S1 → cm M1 (b + 249) S1 → as_ok S1 (B + 4000) → cq_V p l e room_1 s m args below meth c D cA X Bs 9 (cells + 3) (slots + 20) Q 1702 [(0, .ref b0), (1, .ref b), (2, .ref (b + 249)), (3, .ref (b + 264)), (4, .int (nI (4 * n)))] [] M1) : cq_V p l e room_1 s m args below meth c D cA X Bs 9 cells slots Q 444 [(0, .ref b0), (1, .ref b), (2, .ref (b + 249)), (3, .ref (b + 264)), (4, .int (nI (4 * n)))] [] M := by
  refine cq_aload_n F (i := 1) dL_law_444 rfl rfl ?_
  refine w9_cell F hX hbs (n := n) (j := 1) rfl rfl ⟨by omega, by omega⟩ (by decide) dL_law_445 dL_law_446 dL_law_448 dL_law_449 dL_law_450 ?_
  refine w9_cell F hX hbs (n := n) (j := 2) rfl rfl ⟨by omega, by omega⟩ (by decide) dL_law_451 dL_law_452 dL_law_454 dL_law_455 dL_law_456 ?_
  refine w9_bool F dL_law_457 dL_law_460 dL_law_461 dL_law_464 ?_
  refine cq_aload_n F (i := 3) dL_law_465 rfl rfl ?_
  refine cq_callX F (As := [.ref b, .int (xs (4 * n + 1)), .int (nI (w9_b (xs (4 * n + 2)))), .ref (b + 264)]) (st := []) (kL_putOut l hl D cA X Bs b B S (xs (4 * n + 1)) (nI (w9_b (xs (4 * n + 2)))) (b + 264) M hb h hk ho hn (.inr (by omega)) (fun _ => ⟨_, (ao_putOut (xs (4 * n + 1)) (nI (w9_b (xs (4 * n + 2)))) hk)⟩)) (vx_cwSW 4 F.1.2.2.2.2 gL_law_L_putOut rfl rfl rfl (by decide +kernel) ⟨Nat.le_of_ble_eq_true rfl, Nat.le_of_ble_eq_true rfl⟩) rfl (Nat.le_of_ble_eq_true rfl) dL_law_466 ⟨by show _ ≤ 601024; omega, by show _ ≤ 7293034; omega⟩ (cq_kI fun r M1 hw => ?_)
  obtain ⟨hr, ha, hck, hfr⟩ := hw
  have hcm : cm M1 (b + 249) S := hc.ext (fun x k1 k2 _ => hfr x (.inr (by omega)) (by omega)) (by rw [hfr _ (.inr (by omega)) (by omega)]) (by rw [hfr _ (.inr (by omega)) (by omega)])
  refine cq_istore F dL_law_469 (by decide) ?_
  refine cq_aload_n F (i := 2) dL_law_471 rfl rfl ?_
  refine w9_cell F hX hbs (n := n) (j := 1) rfl rfl ⟨by omega, by omega⟩ (by decide) dL_law_472 dL_law_473 dL_law_475 dL_law_476 dL_law_477 ?_
  refine w9_cell F hX hbs (n := n) (j := 2) rfl rfl ⟨by omega, by omega⟩ (by decide) dL_law_478 dL_law_479 dL_law_481 dL_law_482 dL_law_483 ?_
  refine w9_bool F dL_law_484 dL_law_487 dL_law_488 dL_law_491 ?_
  refine cq_callV F (C := RX7) (ci := 8) (As := [.int (xs (4 * n + 1)), .int (nI (w9_b (xs (4 * n + 2))))]) (st := []) (kX7_putOut l D cA X Bs (b + 249) B S (xs (4 * n + 1)) (nI (w9_b (xs (4 * n + 2)))) M1 hm hcm hk) (cwV 2 F.1.2.2.2.2 gL_law_X7_putOut rfl rfl rfl hdVX7_putOut ⟨Nat.le_of_ble_eq_true rfl, Nat.le_of_ble_eq_true rfl⟩) hm.kind ⟨by decide, by decide⟩ rfl rfl rfl (Nat.le_of_ble_eq_true rfl) dL_law_492 ⟨by show _ ≤ 601024; omega, by show _ ≤ 7293034; omega⟩ (cq_kI fun r2 M2 hq => ?_)
  obtain ⟨hth, hr2, hcm2, hfr2⟩ := hq
  refine cq_istore F dL_law_495 (by decide) ?_
  refine w9_tail F (q := (op_putOut S (xs (4 * n + 1)) (nI (w9_b (xs (4 * n + 2)))))) (o := b + 249) (ol := b + 264) (tg := 1702) hm ho hn rfl rfl rfl rfl (by unfold op_putOut; repeat' (first | refine w9_ite ?_ ?_ | exact Nat.le_of_ble_eq_true rfl)) hr (fun z => by rw [hfr2 _ (.inr (by omega))]; exact ha z) hth hr2 dL_law_497 dL_law_498 dL_law_501 dL_law_503 dL_law_508 dL_law_510 dL_law_513 dL_law_514 dL_law_515 dL_law_516 dL_law_518 dL_law_519 dL_law_520 dL_law_525 (by decide) ⟨by omega, by omega⟩ ?_
  refine cq_widen (k := cells + 3) (n := slots + 20) (by omega) (by omega) ?_
  refine cq_loc (L2 := [(0, .ref b0), (1, .ref b), (2, .ref (b + 249)), (3, .ref (b + 264)), (4, .int (nI (4 * n)))]) rfl ?_
  exact kk _ M2 (hck.far (ao_putOut (xs (4 * n + 1)) (nI (w9_b (xs (4 * n + 2)))) hk) (fun x h1 h2 => hfr2 x (.inl (by omega)))) hcm2 (ao_putOut (xs (4 * n + 1)) (nI (w9_b (xs (4 * n + 2)))) hk)
set_option maxRecDepth 100000 in
set_option maxHeartbeats 4000000 in
theorem w9_case_5 (hl : l.stackTraces = false) {b0 N0 n b B : Nat} {S : as_T} {xs : Nat → Int32} (F : cq_F p s m args meth c D cA Bs 9 cL_law RL wsL_law) (hX : va_X b0 N0 xs s s.heap) (hbs : b0 < s.heap.size ∧ b0 < Bs) (hN : 4 * n + 4 ≤ N0 ∧ N0 ≤ 2048) (hb : cq_isClock X b) (hm : cq_isModel X (b + 249)) (ho : X.1 (b + 264) = 17) (hn : X.2.1 (b + 264) = 1) (h : ck M b S) (hc : cm M (b + 249) S) (hk : as_ok S B) (hB : B < 10000000) (hcs : cells ≤ 500000 ∧ slots ≤ 6000000) (kk : ∀ (S1 : as_T) (M1 : cq_M), ck M1 b S1 → cm M1 (b + 249) S1 → as_ok S1 (B + 4000) → cq_V p l e room_1 s m args below meth c D cA X Bs 9 (cells + 3) (slots + 20) Q 1702 [(0, .ref b0), (1, .ref b), (2, .ref (b + 249)), (3, .ref (b + 264)), (4, .int (nI (4 * n)))] [] M1) : cq_V p l e room_1 s m args below meth c D cA X Bs 9 cells slots Q 528 [(0, .ref b0), (1, .ref b), (2, .ref (b + 249)), (3, .ref (b + 264)), (4, .int (nI (4 * n)))] [] M := by
  refine cq_aload_n F (i := 1) dL_law_528 rfl rfl ?_
  refine w9_cell F hX hbs (n := n) (j := 1) rfl rfl ⟨by omega, by omega⟩ (by decide) dL_law_529 dL_law_530 dL_law_532 dL_law_533 dL_law_534 ?_
  refine w9_cell F hX hbs (n := n) (j := 2) rfl rfl ⟨by omega, by omega⟩ (by decide) dL_law_535 dL_law_536 dL_law_538 dL_law_539 dL_law_540 ?_
  refine w9_cell F hX hbs (n := n) (j := 3) rfl rfl ⟨by omega, by omega⟩ (by decide) dL_law_541 dL_law_542 dL_law_544 dL_law_545 dL_law_546 ?_
  refine w9_bool F dL_law_547 dL_law_550 dL_law_551 dL_law_554 ?_
  refine cq_aload_n F (i := 3) dL_law_555 rfl rfl ?_
  refine cq_callX F (As := [.ref b, .int (xs (4 * n + 1)), .int (xs (4 * n + 2)), .int (nI (w9_b (xs (4 * n + 3)))), .ref (b + 264)]) (st := []) (kL_rule l hl D cA X Bs b B S (xs (4 * n + 1)) (xs (4 * n + 2)) (w9_b (xs (4 * n + 3))) (b + 264) M hb h hk (w9_b1 _) ho hn (.inr (by omega)) (fun _ => ⟨_, (ao_rule (xs (4 * n + 1)) (xs (4 * n + 2)) (nI (w9_b (xs (4 * n + 3)))) hk)⟩)) (vx_cwSW 5 F.1.2.2.2.2 gL_law_L_rule rfl rfl rfl (by decide +kernel) ⟨Nat.le_of_ble_eq_true rfl, Nat.le_of_ble_eq_true rfl⟩) rfl (Nat.le_of_ble_eq_true rfl) dL_law_556 ⟨by show _ ≤ 601024; omega, by show _ ≤ 7293034; omega⟩ (cq_kI fun r M1 hw => ?_)
  obtain ⟨hr, ha, hck, hfr⟩ := hw
  have hcm : cm M1 (b + 249) S := hc.ext (fun x k1 k2 _ => hfr x (.inr (by omega)) (by omega)) (by rw [hfr _ (.inr (by omega)) (by omega)]) (by rw [hfr _ (.inr (by omega)) (by omega)])
  refine cq_istore F dL_law_559 (by decide) ?_
  refine cq_aload_n F (i := 2) dL_law_561 rfl rfl ?_
  refine w9_cell F hX hbs (n := n) (j := 1) rfl rfl ⟨by omega, by omega⟩ (by decide) dL_law_562 dL_law_563 dL_law_565 dL_law_566 dL_law_567 ?_
  refine w9_cell F hX hbs (n := n) (j := 2) rfl rfl ⟨by omega, by omega⟩ (by decide) dL_law_568 dL_law_569 dL_law_571 dL_law_572 dL_law_573 ?_
  refine w9_cell F hX hbs (n := n) (j := 3) rfl rfl ⟨by omega, by omega⟩ (by decide) dL_law_574 dL_law_575 dL_law_577 dL_law_578 dL_law_579 ?_
  refine w9_bool F dL_law_580 dL_law_583 dL_law_584 dL_law_587 ?_
  refine cq_callV F (C := RX7) (ci := 8) (As := [.int (xs (4 * n + 1)), .int (xs (4 * n + 2)), .int (nI (w9_b (xs (4 * n + 3))))]) (st := []) (kX7_rule l D cA X Bs (b + 249) B S (xs (4 * n + 1)) (xs (4 * n + 2)) (nI (w9_b (xs (4 * n + 3)))) M1 hm hcm hk) (cwV 3 F.1.2.2.2.2 gL_law_X7_rule rfl rfl rfl hdVX7_rule ⟨Nat.le_of_ble_eq_true rfl, Nat.le_of_ble_eq_true rfl⟩) hm.kind ⟨by decide, by decide⟩ rfl rfl rfl (Nat.le_of_ble_eq_true rfl) dL_law_588 ⟨by show _ ≤ 601024; omega, by show _ ≤ 7293034; omega⟩ (cq_kI fun r2 M2 hq => ?_)
  obtain ⟨hth, hr2, hcm2, hfr2⟩ := hq
  refine cq_istore F dL_law_591 (by decide) ?_
  refine w9_tail F (q := (op_rule S (xs (4 * n + 1)) (xs (4 * n + 2)) (nI (w9_b (xs (4 * n + 3)))))) (o := b + 249) (ol := b + 264) (tg := 1702) hm ho hn rfl rfl rfl rfl (by unfold op_rule; repeat' (first | refine w9_ite ?_ ?_ | exact Nat.le_of_ble_eq_true rfl)) hr (fun z => by rw [hfr2 _ (.inr (by omega))]; exact ha z) hth hr2 dL_law_593 dL_law_594 dL_law_597 dL_law_599 dL_law_604 dL_law_606 dL_law_609 dL_law_610 dL_law_611 dL_law_612 dL_law_614 dL_law_615 dL_law_616 dL_law_621 (by decide) ⟨by omega, by omega⟩ ?_
  refine cq_widen (k := cells + 3) (n := slots + 20) (by omega) (by omega) ?_
  refine cq_loc (L2 := [(0, .ref b0), (1, .ref b), (2, .ref (b + 249)), (3, .ref (b + 264)), (4, .int (nI (4 * n)))]) rfl ?_
  exact kk _ M2 (hck.far (ao_rule (xs (4 * n + 1)) (xs (4 * n + 2)) (nI (w9_b (xs (4 * n + 3)))) hk) (fun x h1 h2 => hfr2 x (.inl (by omega)))) hcm2 (ao_rule (xs (4 * n + 1)) (xs (4 * n + 2)) (nI (w9_b (xs (4 * n + 3)))) hk)
set_option maxRecDepth 100000 in
set_option maxHeartbeats 4000000 in
theorem w9_case_6 (hl : l.stackTraces = false) {b0 N0 n b B : Nat} {S : as_T} {xs : Nat → Int32} (F : cq_F p s m args meth c D cA Bs 9 cL_law RL wsL_law) (hX : va_X b0 N0 xs s s.heap) (hbs : b0 < s.heap.size ∧ b0 < Bs) (hN : 4 * n + 4 ≤ N0 ∧ N0 ≤ 2048) (hb : cq_isClock X b) (hm : cq_isModel X (b + 249)) (ho : X.1 (b + 264) = 17) (hn : X.2.1 (b + 264) = 1) (h : ck M b S) (hc : cm M (b + 249) S) (hk : as_ok S B) (hB : B < 10000000) (hcs : cells ≤ 500000 ∧ slots ≤ 6000000) (kk : ∀ (S1 : as_T) (M1 : cq_M), ck M1 b S1 → cm M1 (b + 249) S1 → as_ok S1 (B + 4000) → cq_V p l e room_1 s m args below meth c D cA X Bs 9 (cells + 3) (slots + 20) Q 1702 [(0, .ref b0), (1, .ref b), (2, .ref (b + 249)), (3, .ref (b + 264)), (4, .int (nI (4 * n)))] [] M1) : cq_V p l e room_1 s m args below meth c D cA X Bs 9 cells slots Q 624 [(0, .ref b0), (1, .ref b), (2, .ref (b + 249)), (3, .ref (b + 264)), (4, .int (nI (4 * n)))] [] M := by
  refine cq_aload_n F (i := 1) dL_law_624 rfl rfl ?_
  refine cq_callV F (C := RX6) (ci := 7) (st := []) (kX6_dropRules l D cA X Bs b B S M hb h hk) (cwV 0 F.1.2.2.2.2 gL_law_X6_dropRules rfl rfl rfl hdVX6_dropRules ⟨Nat.le_of_ble_eq_true rfl, Nat.le_of_ble_eq_true rfl⟩) hb.kind ⟨by decide, by decide⟩ rfl rfl rfl (Nat.le_of_ble_eq_true rfl) dL_law_625 ⟨by show _ ≤ 601024; omega, by show _ ≤ 7293034; omega⟩ (cq_kI fun r M1 hw => ?_)
  obtain ⟨hq0, hr, hck, hfr⟩ := hw
  have hcm : cm M1 (b + 249) S := hc.ext (fun x k1 k2 _ => hfr x (.inr (by omega))) (by rw [hfr _ (.inr (by omega))]) (by rw [hfr _ (.inr (by omega))])
  refine cq_aload_n F (i := 2) dL_law_628 rfl rfl ?_
  refine cq_callV F (C := RX7) (ci := 8) (st := [.int r]) (kX7_dropRules l D cA X Bs (b + 249) B S M1 hm hcm hk) (cwV 0 F.1.2.2.2.2 gL_law_X7_dropRules rfl rfl rfl hdVX7_dropRules ⟨Nat.le_of_ble_eq_true rfl, Nat.le_of_ble_eq_true rfl⟩) hm.kind ⟨by decide, by decide⟩ rfl rfl rfl (Nat.le_of_ble_eq_true rfl) dL_law_629 ⟨by show _ ≤ 601024; omega, by show _ ≤ 7293034; omega⟩ (cq_kI fun r2 M2 hq => ?_)
  obtain ⟨hth, hr2, hcm2, hfr2⟩ := hq
  refine cq_icmp_eq F (tgt := 1702) dL_law_632 (by decide) (fun _ => ?_) (fun hE => absurd (by rw [hr, hr2 hq0]) hE)
  refine cq_widen (k := cells + 3) (n := slots + 20) (by omega) (by omega) ?_
  exact kk _ M2 (hck.far (ao_dropped hk) (fun x h1 h2 => hfr2 x (.inl (by omega)))) hcm2 (ao_dropped hk)
set_option maxRecDepth 100000 in
set_option maxHeartbeats 4000000 in
theorem w9_case_7 (hl : l.stackTraces = false) {b0 N0 n b B : Nat} {S : as_T} {xs : Nat → Int32} (F : cq_F p s m args meth c D cA Bs 9 cL_law RL wsL_law) (hX : va_X b0 N0 xs s s.heap) (hbs : b0 < s.heap.size ∧ b0 < Bs) (hN : 4 * n + 4 ≤ N0 ∧ N0 ≤ 2048) (hb : cq_isClock X b) (hm : cq_isModel X (b + 249)) (ho : X.1 (b + 264) = 17) (hn : X.2.1 (b + 264) = 1) (h : ck M b S) (hc : cm M (b + 249) S) (hk : as_ok S B) (hB : B < 10000000) (hcs : cells ≤ 500000 ∧ slots ≤ 6000000) (kk : ∀ (S1 : as_T) (M1 : cq_M), ck M1 b S1 → cm M1 (b + 249) S1 → as_ok S1 (B + 4000) → cq_V p l e room_1 s m args below meth c D cA X Bs 9 (cells + 3) (slots + 20) Q 1702 [(0, .ref b0), (1, .ref b), (2, .ref (b + 249)), (3, .ref (b + 264)), (4, .int (nI (4 * n)))] [] M1) : cq_V p l e room_1 s m args below meth c D cA X Bs 9 cells slots Q 637 [(0, .ref b0), (1, .ref b), (2, .ref (b + 249)), (3, .ref (b + 264)), (4, .int (nI (4 * n)))] [] M := by
  refine cq_aload_n F (i := 1) dL_law_637 rfl rfl ?_
  refine w9_cell F hX hbs (n := n) (j := 1) rfl rfl ⟨by omega, by omega⟩ (by decide) dL_law_638 dL_law_639 dL_law_641 dL_law_642 dL_law_643 ?_
  refine cq_aload_n F (i := 3) dL_law_644 rfl rfl ?_
  refine cq_callX F (As := [.ref b, .int (xs (4 * n + 1)), .ref (b + 264)]) (st := []) (kL_run l hl D cA X Bs b B S (xs (4 * n + 1)) (b + 264) M hb h hk (by omega) ho hn (.inr (by omega)) (fun _ => ⟨_, (ao_run (xs (4 * n + 1)) hk)⟩)) (vx_cwSW 3 F.1.2.2.2.2 gL_law_L_run rfl rfl rfl (by decide +kernel) ⟨Nat.le_of_ble_eq_true rfl, Nat.le_of_ble_eq_true rfl⟩) rfl (Nat.le_of_ble_eq_true rfl) dL_law_645 ⟨by show _ ≤ 601024; omega, by show _ ≤ 7293034; omega⟩ (cq_kI fun r M1 hw => ?_)
  obtain ⟨hr, ha, hck, hfr⟩ := hw
  have hcm : cm M1 (b + 249) S := hc.ext (fun x k1 k2 _ => hfr x (.inr (by omega)) (by omega)) (by rw [hfr _ (.inr (by omega)) (by omega)]) (by rw [hfr _ (.inr (by omega)) (by omega)])
  refine cq_istore F dL_law_648 (by decide) ?_
  refine cq_aload_n F (i := 2) dL_law_650 rfl rfl ?_
  refine w9_cell F hX hbs (n := n) (j := 1) rfl rfl ⟨by omega, by omega⟩ (by decide) dL_law_651 dL_law_652 dL_law_654 dL_law_655 dL_law_656 ?_
  refine cq_callV F (C := RX7) (ci := 8) (As := [.int (xs (4 * n + 1))]) (st := []) (kX7_run l D cA X Bs (b + 249) B S (xs (4 * n + 1)) M1 hm hcm hk (by omega)) (cwV 1 F.1.2.2.2.2 gL_law_X7_run rfl rfl rfl hdVX7_run ⟨Nat.le_of_ble_eq_true rfl, Nat.le_of_ble_eq_true rfl⟩) hm.kind ⟨by decide, by decide⟩ rfl rfl rfl (Nat.le_of_ble_eq_true rfl) dL_law_657 ⟨by show _ ≤ 601024; omega, by show _ ≤ 7293034; omega⟩ (cq_kI fun r2 M2 hq => ?_)
  obtain ⟨hth, hr2, hcm2, hfr2⟩ := hq
  refine cq_istore F dL_law_660 (by decide) ?_
  refine w9_tail F (q := (op_run S (xs (4 * n + 1)))) (o := b + 249) (ol := b + 264) (tg := 1702) hm ho hn rfl rfl rfl rfl (by unfold op_run; repeat' (first | refine w9_ite ?_ ?_ | exact Nat.le_of_ble_eq_true rfl)) hr (fun z => by rw [hfr2 _ (.inr (by omega))]; exact ha z) hth hr2 dL_law_662 dL_law_663 dL_law_666 dL_law_668 dL_law_673 dL_law_675 dL_law_678 dL_law_679 dL_law_680 dL_law_681 dL_law_683 dL_law_684 dL_law_685 dL_law_690 (by decide) ⟨by omega, by omega⟩ ?_
  refine cq_widen (k := cells + 3) (n := slots + 20) (by omega) (by omega) ?_
  refine cq_loc (L2 := [(0, .ref b0), (1, .ref b), (2, .ref (b + 249)), (3, .ref (b + 264)), (4, .int (nI (4 * n)))]) rfl ?_
  exact kk _ M2 (hck.far (ao_run (xs (4 * n + 1)) hk) (fun x h1 h2 => hfr2 x (.inl (by omega)))) hcm2 (ao_run (xs (4 * n + 1)) hk)
set_option maxRecDepth 100000 in
set_option maxHeartbeats 4000000 in
theorem w9_case_8 (hl : l.stackTraces = false) {b0 N0 n b B : Nat} {S : as_T} {xs : Nat → Int32} (F : cq_F p s m args meth c D cA Bs 9 cL_law RL wsL_law) (hX : va_X b0 N0 xs s s.heap) (hbs : b0 < s.heap.size ∧ b0 < Bs) (hN : 4 * n + 4 ≤ N0 ∧ N0 ≤ 2048) (hb : cq_isClock X b) (hm : cq_isModel X (b + 249)) (ho : X.1 (b + 264) = 17) (hn : X.2.1 (b + 264) = 1) (h : ck M b S) (hc : cm M (b + 249) S) (hk : as_ok S B) (hB : B < 10000000) (hcs : cells ≤ 500000 ∧ slots ≤ 6000000) (kk : ∀ (S1 : as_T) (M1 : cq_M), ck M1 b S1 → cm M1 (b + 249) S1 → as_ok S1 (B + 4000) → cq_V p l e room_1 s m args below meth c D cA X Bs 9 (cells + 3) (slots + 20) Q 1702 [(0, .ref b0), (1, .ref b), (2, .ref (b + 249)), (3, .ref (b + 264)), (4, .int (nI (4 * n)))] [] M1) : cq_V p l e room_1 s m args below meth c D cA X Bs 9 cells slots Q 693 [(0, .ref b0), (1, .ref b), (2, .ref (b + 249)), (3, .ref (b + 264)), (4, .int (nI (4 * n)))] [] M := by
  refine cq_aload_n F (i := 1) dL_law_693 rfl rfl ?_
  refine w9_cell F hX hbs (n := n) (j := 1) rfl rfl ⟨by omega, by omega⟩ (by decide) dL_law_694 dL_law_695 dL_law_697 dL_law_698 dL_law_699 ?_
  refine cq_aload_n F (i := 3) dL_law_700 rfl rfl ?_
  refine cq_callX F (As := [.ref b, .int (xs (4 * n + 1)), .ref (b + 264)]) (st := []) (kL_append l hl D cA X Bs b B S (xs (4 * n + 1)) (b + 264) M hb h hk ho hn (.inr (by omega)) (fun _ => ⟨_, (ao_append (xs (4 * n + 1)) hk)⟩)) (vx_cwSW 3 F.1.2.2.2.2 gL_law_L_append rfl rfl rfl (by decide +kernel) ⟨Nat.le_of_ble_eq_true rfl, Nat.le_of_ble_eq_true rfl⟩) rfl (Nat.le_of_ble_eq_true rfl) dL_law_701 ⟨by show _ ≤ 601024; omega, by show _ ≤ 7293034; omega⟩ (cq_kI fun r M1 hw => ?_)
  obtain ⟨hr, ha, hck, hfr⟩ := hw
  have hcm : cm M1 (b + 249) S := hc.ext (fun x k1 k2 _ => hfr x (.inr (by omega)) (by omega)) (by rw [hfr _ (.inr (by omega)) (by omega)]) (by rw [hfr _ (.inr (by omega)) (by omega)])
  refine cq_istore F dL_law_704 (by decide) ?_
  refine cq_aload_n F (i := 2) dL_law_706 rfl rfl ?_
  refine w9_cell F hX hbs (n := n) (j := 1) rfl rfl ⟨by omega, by omega⟩ (by decide) dL_law_707 dL_law_708 dL_law_710 dL_law_711 dL_law_712 ?_
  refine cq_callV F (C := RX7) (ci := 8) (As := [.int (xs (4 * n + 1))]) (st := []) (kX7_append l D cA X Bs (b + 249) B S (xs (4 * n + 1)) M1 hm hcm hk) (cwV 1 F.1.2.2.2.2 gL_law_X7_append rfl rfl rfl hdVX7_append ⟨Nat.le_of_ble_eq_true rfl, Nat.le_of_ble_eq_true rfl⟩) hm.kind ⟨by decide, by decide⟩ rfl rfl rfl (Nat.le_of_ble_eq_true rfl) dL_law_713 ⟨by show _ ≤ 601024; omega, by show _ ≤ 7293034; omega⟩ (cq_kI fun r2 M2 hq => ?_)
  obtain ⟨hth, hr2, hcm2, hfr2⟩ := hq
  refine cq_istore F dL_law_716 (by decide) ?_
  refine w9_tail F (q := (op_append S (xs (4 * n + 1)))) (o := b + 249) (ol := b + 264) (tg := 1702) hm ho hn rfl rfl rfl rfl (by unfold op_append; repeat' (first | refine w9_ite ?_ ?_ | exact Nat.le_of_ble_eq_true rfl)) hr (fun z => by rw [hfr2 _ (.inr (by omega))]; exact ha z) hth hr2 dL_law_718 dL_law_719 dL_law_722 dL_law_724 dL_law_729 dL_law_731 dL_law_734 dL_law_735 dL_law_736 dL_law_737 dL_law_739 dL_law_740 dL_law_741 dL_law_746 (by decide) ⟨by omega, by omega⟩ ?_
  refine cq_widen (k := cells + 3) (n := slots + 20) (by omega) (by omega) ?_
  refine cq_loc (L2 := [(0, .ref b0), (1, .ref b), (2, .ref (b + 249)), (3, .ref (b + 264)), (4, .int (nI (4 * n)))]) rfl ?_
  exact kk _ M2 (hck.far (ao_append (xs (4 * n + 1)) hk) (fun x h1 h2 => hfr2 x (.inl (by omega)))) hcm2 (ao_append (xs (4 * n + 1)) hk)
set_option maxRecDepth 100000 in
set_option maxHeartbeats 4000000 in
theorem w9_case_9 (hl : l.stackTraces = false) {b0 N0 n b B : Nat} {S : as_T} {xs : Nat → Int32} (F : cq_F p s m args meth c D cA Bs 9 cL_law RL wsL_law) (hX : va_X b0 N0 xs s s.heap) (hbs : b0 < s.heap.size ∧ b0 < Bs) (hN : 4 * n + 4 ≤ N0 ∧ N0 ≤ 2048) (hb : cq_isClock X b) (hm : cq_isModel X (b + 249)) (ho : X.1 (b + 264) = 17) (hn : X.2.1 (b + 264) = 1) (h : ck M b S) (hc : cm M (b + 249) S) (hk : as_ok S B) (hB : B < 10000000) (hcs : cells ≤ 500000 ∧ slots ≤ 6000000) (kk : ∀ (S1 : as_T) (M1 : cq_M), ck M1 b S1 → cm M1 (b + 249) S1 → as_ok S1 (B + 4000) → cq_V p l e room_1 s m args below meth c D cA X Bs 9 (cells + 3) (slots + 20) Q 1702 [(0, .ref b0), (1, .ref b), (2, .ref (b + 249)), (3, .ref (b + 264)), (4, .int (nI (4 * n)))] [] M1) : cq_V p l e room_1 s m args below meth c D cA X Bs 9 cells slots Q 749 [(0, .ref b0), (1, .ref b), (2, .ref (b + 249)), (3, .ref (b + 264)), (4, .int (nI (4 * n)))] [] M := by
  refine cq_aload_n F (i := 1) dL_law_749 rfl rfl ?_
  refine cq_callV F (C := RX6) (ci := 7) (st := []) (kX6_clearBuffer l D cA X Bs b B S M hb h hk) (cwV 0 F.1.2.2.2.2 gL_law_X6_clearBuffer rfl rfl rfl hdVX6_clearBuffer ⟨Nat.le_of_ble_eq_true rfl, Nat.le_of_ble_eq_true rfl⟩) hb.kind ⟨by decide, by decide⟩ rfl rfl rfl (Nat.le_of_ble_eq_true rfl) dL_law_750 ⟨by show _ ≤ 601024; omega, by show _ ≤ 7293034; omega⟩ (cq_kI fun r M1 hw => ?_)
  obtain ⟨hq0, hr, hck, hfr⟩ := hw
  have hcm : cm M1 (b + 249) S := hc.ext (fun x k1 k2 _ => hfr x (.inr (by omega))) (by rw [hfr _ (.inr (by omega))]) (by rw [hfr _ (.inr (by omega))])
  refine cq_aload_n F (i := 2) dL_law_753 rfl rfl ?_
  refine cq_callV F (C := RX7) (ci := 8) (st := [.int r]) (kX7_clearBuffer l D cA X Bs (b + 249) B S M1 hm hcm hk) (cwV 0 F.1.2.2.2.2 gL_law_X7_clearBuffer rfl rfl rfl hdVX7_clearBuffer ⟨Nat.le_of_ble_eq_true rfl, Nat.le_of_ble_eq_true rfl⟩) hm.kind ⟨by decide, by decide⟩ rfl rfl rfl (Nat.le_of_ble_eq_true rfl) dL_law_754 ⟨by show _ ≤ 601024; omega, by show _ ≤ 7293034; omega⟩ (cq_kI fun r2 M2 hq => ?_)
  obtain ⟨hth, hr2, hcm2, hfr2⟩ := hq
  refine cq_icmp_eq F (tgt := 1702) dL_law_757 (by decide) (fun _ => ?_) (fun hE => absurd (by rw [hr, hr2 hq0]) hE)
  refine cq_widen (k := cells + 3) (n := slots + 20) (by omega) (by omega) ?_
  exact kk _ M2 (hck.far (ao_clear hk) (fun x h1 h2 => hfr2 x (.inl (by omega)))) hcm2 (ao_clear hk)
set_option maxRecDepth 100000 in
set_option maxHeartbeats 4000000 in
theorem w9_case_10 (hl : l.stackTraces = false) {b0 N0 n b B : Nat} {S : as_T} {xs : Nat → Int32} (F : cq_F p s m args meth c D cA Bs 9 cL_law RL wsL_law) (hX : va_X b0 N0 xs s s.heap) (hbs : b0 < s.heap.size ∧ b0 < Bs) (hN : 4 * n + 4 ≤ N0 ∧ N0 ≤ 2048) (hb : cq_isClock X b) (hm : cq_isModel X (b + 249)) (ho : X.1 (b + 264) = 17) (hn : X.2.1 (b + 264) = 1) (h : ck M b S) (hc : cm M (b + 249) S) (hk : as_ok S B) (hB : B < 10000000) (hcs : cells ≤ 500000 ∧ slots ≤ 6000000) (kk : ∀ (S1 : as_T) (M1 : cq_M), ck M1 b S1 → cm M1 (b + 249) S1 → as_ok S1 (B + 4000) → cq_V p l e room_1 s m args below meth c D cA X Bs 9 (cells + 3) (slots + 20) Q 1702 [(0, .ref b0), (1, .ref b), (2, .ref (b + 249)), (3, .ref (b + 264)), (4, .int (nI (4 * n)))] [] M1) : cq_V p l e room_1 s m args below meth c D cA X Bs 9 cells slots Q 762 [(0, .ref b0), (1, .ref b), (2, .ref (b + 249)), (3, .ref (b + 264)), (4, .int (nI (4 * n)))] [] M := by
  refine cq_aload_n F (i := 1) dL_law_762 rfl rfl ?_
  refine cq_callV F (C := RX6) (ci := 7) (st := []) (kX6_firstError l D cA X Bs b B S M hb h hk) (cwV 0 F.1.2.2.2.2 gL_law_X6_firstError rfl rfl rfl hdVX6_firstError ⟨Nat.le_of_ble_eq_true rfl, Nat.le_of_ble_eq_true rfl⟩) hb.kind ⟨by decide, by decide⟩ rfl rfl rfl (Nat.le_of_ble_eq_true rfl) dL_law_763 ⟨by show _ ≤ 601024; omega, by show _ ≤ 7293034; omega⟩ (cq_kI fun r M1 hw => ?_)
  obtain ⟨hq0, hr, hck, hfr⟩ := hw
  have hcm : cm M1 (b + 249) S := hc.ext (fun x k1 k2 _ => hfr x (.inr (by omega))) (by rw [hfr _ (.inr (by omega))]) (by rw [hfr _ (.inr (by omega))])
  refine cq_aload_n F (i := 2) dL_law_766 rfl rfl ?_
  refine cq_callV F (C := RX7) (ci := 8) (st := [.int r]) (kX7_firstError l D cA X Bs (b + 249) B S M1 hm hcm hk) (cwV 0 F.1.2.2.2.2 gL_law_X7_firstError rfl rfl rfl hdVX7_firstError ⟨Nat.le_of_ble_eq_true rfl, Nat.le_of_ble_eq_true rfl⟩) hm.kind ⟨by decide, by decide⟩ rfl rfl rfl (Nat.le_of_ble_eq_true rfl) dL_law_767 ⟨by show _ ≤ 601024; omega, by show _ ≤ 7293034; omega⟩ (cq_kI fun r2 M2 hq => ?_)
  obtain ⟨hth, hr2, hcm2, hfr2⟩ := hq
  refine cq_icmp_eq F (tgt := 1702) dL_law_770 (by decide) (fun _ => ?_) (fun hE => absurd (by rw [hr, hr2 hq0]) hE)
  refine cq_widen (k := cells + 3) (n := slots + 20) (by omega) (by omega) ?_
  exact kk _ M2 (hck.far (ao_error hk) (fun x h1 h2 => hfr2 x (.inl (by omega)))) hcm2 (ao_error hk)
set_option maxRecDepth 100000 in
set_option maxHeartbeats 4000000 in
theorem w9_case_11 (hl : l.stackTraces = false) {b0 N0 n b B : Nat} {S : as_T} {xs : Nat → Int32} (F : cq_F p s m args meth c D cA Bs 9 cL_law RL wsL_law) (hX : va_X b0 N0 xs s s.heap) (hbs : b0 < s.heap.size ∧ b0 < Bs) (hN : 4 * n + 4 ≤ N0 ∧ N0 ≤ 2048) (hb : cq_isClock X b) (hm : cq_isModel X (b + 249)) (ho : X.1 (b + 264) = 17) (hn : X.2.1 (b + 264) = 1) (h : ck M b S) (hc : cm M (b + 249) S) (hk : as_ok S B) (hB : B < 10000000) (hcs : cells ≤ 500000 ∧ slots ≤ 6000000) (kk : ∀ (S1 : as_T) (M1 : cq_M), ck M1 b S1 → cm M1 (b + 249) S1 → as_ok S1 (B + 4000) → cq_V p l e room_1 s m args below meth c D cA X Bs 9 (cells + 3) (slots + 20) Q 1702 [(0, .ref b0), (1, .ref b), (2, .ref (b + 249)), (3, .ref (b + 264)), (4, .int (nI (4 * n)))] [] M1) : cq_V p l e room_1 s m args below meth c D cA X Bs 9 cells slots Q 775 [(0, .ref b0), (1, .ref b), (2, .ref (b + 249)), (3, .ref (b + 264)), (4, .int (nI (4 * n)))] [] M := by
  refine cq_aload_n F (i := 1) dL_law_775 rfl rfl ?_
  refine cq_aload_n F (i := 3) dL_law_776 rfl rfl ?_
  refine cq_callX F (As := [.ref b, .ref (b + 264)]) (st := []) (kL_execute l hl D cA X Bs b B S (b + 264) M hb h hk (by omega) ho hn (.inr (by omega)) (fun _ => ⟨_, (ao_exec hk)⟩)) (vx_cwSW 2 F.1.2.2.2.2 gL_law_L_execute rfl rfl rfl (by decide +kernel) ⟨Nat.le_of_ble_eq_true rfl, Nat.le_of_ble_eq_true rfl⟩) rfl (Nat.le_of_ble_eq_true rfl) dL_law_777 ⟨by show _ ≤ 601024; omega, by show _ ≤ 7293034; omega⟩ (cq_kI fun r M1 hw => ?_)
  obtain ⟨hr, ha, hck, hfr⟩ := hw
  have hcm : cm M1 (b + 249) S := hc.ext (fun x k1 k2 _ => hfr x (.inr (by omega)) (by omega)) (by rw [hfr _ (.inr (by omega)) (by omega)]) (by rw [hfr _ (.inr (by omega)) (by omega)])
  refine cq_istore F dL_law_780 (by decide) ?_
  refine cq_aload_n F (i := 2) dL_law_782 rfl rfl ?_
  refine cq_callV F (C := RX7) (ci := 8) (As := []) (st := []) (kX7_execute l D cA X Bs (b + 249) B S M1 hm hcm hk (by omega)) (cwV 0 F.1.2.2.2.2 gL_law_X7_execute rfl rfl rfl hdVX7_execute ⟨Nat.le_of_ble_eq_true rfl, Nat.le_of_ble_eq_true rfl⟩) hm.kind ⟨by decide, by decide⟩ rfl rfl rfl (Nat.le_of_ble_eq_true rfl) dL_law_783 ⟨by show _ ≤ 601024; omega, by show _ ≤ 7293034; omega⟩ (cq_kI fun r2 M2 hq => ?_)
  obtain ⟨hth, hr2, hcm2, hfr2⟩ := hq
  refine cq_istore F dL_law_786 (by decide) ?_
  refine w9_tail F (q := (op_exec S)) (o := b + 249) (ol := b + 264) (tg := 1702) hm ho hn rfl rfl rfl rfl (by unfold op_exec; repeat' (first | refine w9_ite ?_ ?_ | exact Nat.le_of_ble_eq_true rfl)) hr (fun z => by rw [hfr2 _ (.inr (by omega))]; exact ha z) hth hr2 dL_law_788 dL_law_789 dL_law_792 dL_law_794 dL_law_799 dL_law_801 dL_law_804 dL_law_805 dL_law_806 dL_law_807 dL_law_809 dL_law_810 dL_law_811 dL_law_816 (by decide) ⟨by omega, by omega⟩ ?_
  refine cq_widen (k := cells + 3) (n := slots + 20) (by omega) (by omega) ?_
  refine cq_loc (L2 := [(0, .ref b0), (1, .ref b), (2, .ref (b + 249)), (3, .ref (b + 264)), (4, .int (nI (4 * n)))]) rfl ?_
  exact kk _ M2 (hck.far (ao_exec hk) (fun x h1 h2 => hfr2 x (.inl (by omega)))) hcm2 (ao_exec hk)
set_option maxRecDepth 100000 in
set_option maxHeartbeats 4000000 in
theorem w9_case_12 (hl : l.stackTraces = false) {b0 N0 n b B : Nat} {S : as_T} {xs : Nat → Int32} (F : cq_F p s m args meth c D cA Bs 9 cL_law RL wsL_law) (hX : va_X b0 N0 xs s s.heap) (hbs : b0 < s.heap.size ∧ b0 < Bs) (hN : 4 * n + 4 ≤ N0 ∧ N0 ≤ 2048) (hb : cq_isClock X b) (hm : cq_isModel X (b + 249)) (ho : X.1 (b + 264) = 17) (hn : X.2.1 (b + 264) = 1) (h : ck M b S) (hc : cm M (b + 249) S) (hk : as_ok S B) (hB : B < 10000000) (hcs : cells ≤ 500000 ∧ slots ≤ 6000000) (kk : ∀ (S1 : as_T) (M1 : cq_M), ck M1 b S1 → cm M1 (b + 249) S1 → as_ok S1 (B + 4000) → cq_V p l e room_1 s m args below meth c D cA X Bs 9 (cells + 3) (slots + 20) Q 1702 [(0, .ref b0), (1, .ref b), (2, .ref (b + 249)), (3, .ref (b + 264)), (4, .int (nI (4 * n)))] [] M1) : cq_V p l e room_1 s m args below meth c D cA X Bs 9 cells slots Q 819 [(0, .ref b0), (1, .ref b), (2, .ref (b + 249)), (3, .ref (b + 264)), (4, .int (nI (4 * n)))] [] M := by
  refine cq_aload_n F (i := 1) dL_law_819 rfl rfl ?_
  refine cq_aload_n F (i := 3) dL_law_820 rfl rfl ?_
  refine cq_callX F (As := [.ref b, .ref (b + 264)]) (st := []) (kL_undo l hl D cA X Bs b B S (b + 264) M hb h hk ho hn (.inr (by omega)) (fun _ => ⟨_, (ao_undo hk)⟩)) (vx_cwSW 2 F.1.2.2.2.2 gL_law_L_undo rfl rfl rfl (by decide +kernel) ⟨Nat.le_of_ble_eq_true rfl, Nat.le_of_ble_eq_true rfl⟩) rfl (Nat.le_of_ble_eq_true rfl) dL_law_821 ⟨by show _ ≤ 601024; omega, by show _ ≤ 7293034; omega⟩ (cq_kI fun r M1 hw => ?_)
  obtain ⟨hr, ha, hck, hfr⟩ := hw
  have hcm : cm M1 (b + 249) S := hc.ext (fun x k1 k2 _ => hfr x (.inr (by omega)) (by omega)) (by rw [hfr _ (.inr (by omega)) (by omega)]) (by rw [hfr _ (.inr (by omega)) (by omega)])
  refine cq_istore F dL_law_824 (by decide) ?_
  refine cq_aload_n F (i := 2) dL_law_826 rfl rfl ?_
  refine cq_callV F (C := RX7) (ci := 8) (As := []) (st := []) (kX7_undo l D cA X Bs (b + 249) B S M1 hm hcm hk) (cwV 0 F.1.2.2.2.2 gL_law_X7_undo rfl rfl rfl hdVX7_undo ⟨Nat.le_of_ble_eq_true rfl, Nat.le_of_ble_eq_true rfl⟩) hm.kind ⟨by decide, by decide⟩ rfl rfl rfl (Nat.le_of_ble_eq_true rfl) dL_law_827 ⟨by show _ ≤ 601024; omega, by show _ ≤ 7293034; omega⟩ (cq_kI fun r2 M2 hq => ?_)
  obtain ⟨hth, hr2, hcm2, hfr2⟩ := hq
  refine cq_istore F dL_law_830 (by decide) ?_
  refine w9_tail F (q := (op_undo S)) (o := b + 249) (ol := b + 264) (tg := 1702) hm ho hn rfl rfl rfl rfl (by unfold op_undo; repeat' (first | refine w9_ite ?_ ?_ | exact Nat.le_of_ble_eq_true rfl)) hr (fun z => by rw [hfr2 _ (.inr (by omega))]; exact ha z) hth hr2 dL_law_832 dL_law_833 dL_law_836 dL_law_838 dL_law_843 dL_law_845 dL_law_848 dL_law_849 dL_law_850 dL_law_851 dL_law_853 dL_law_854 dL_law_855 dL_law_860 (by decide) ⟨by omega, by omega⟩ ?_
  refine cq_widen (k := cells + 3) (n := slots + 20) (by omega) (by omega) ?_
  refine cq_loc (L2 := [(0, .ref b0), (1, .ref b), (2, .ref (b + 249)), (3, .ref (b + 264)), (4, .int (nI (4 * n)))]) rfl ?_
  exact kk _ M2 (hck.far (ao_undo hk) (fun x h1 h2 => hfr2 x (.inl (by omega)))) hcm2 (ao_undo hk)
set_option maxRecDepth 100000 in
set_option maxHeartbeats 4000000 in
theorem w9_case_13 (hl : l.stackTraces = false) {b0 N0 n b B : Nat} {S : as_T} {xs : Nat → Int32} (F : cq_F p s m args meth c D cA Bs 9 cL_law RL wsL_law) (hX : va_X b0 N0 xs s s.heap) (hbs : b0 < s.heap.size ∧ b0 < Bs) (hN : 4 * n + 4 ≤ N0 ∧ N0 ≤ 2048) (hb : cq_isClock X b) (hm : cq_isModel X (b + 249)) (ho : X.1 (b + 264) = 17) (hn : X.2.1 (b + 264) = 1) (h : ck M b S) (hc : cm M (b + 249) S) (hk : as_ok S B) (hB : B < 10000000) (hcs : cells ≤ 500000 ∧ slots ≤ 6000000) (kk : ∀ (S1 : as_T) (M1 : cq_M), ck M1 b S1 → cm M1 (b + 249) S1 → as_ok S1 (B + 4000) → cq_V p l e room_1 s m args below meth c D cA X Bs 9 (cells + 3) (slots + 20) Q 1702 [(0, .ref b0), (1, .ref b), (2, .ref (b + 249)), (3, .ref (b + 264)), (4, .int (nI (4 * n)))] [] M1) : cq_V p l e room_1 s m args below meth c D cA X Bs 9 cells slots Q 863 [(0, .ref b0), (1, .ref b), (2, .ref (b + 249)), (3, .ref (b + 264)), (4, .int (nI (4 * n)))] [] M := by
  refine cq_aload_n F (i := 1) dL_law_863 rfl rfl ?_
  refine w9_cell F hX hbs (n := n) (j := 1) rfl rfl ⟨by omega, by omega⟩ (by decide) dL_law_864 dL_law_865 dL_law_867 dL_law_868 dL_law_869 ?_
  refine cq_aload_n F (i := 3) dL_law_870 rfl rfl ?_
  refine cq_callX F (As := [.ref b, .int (xs (4 * n + 1)), .ref (b + 264)]) (st := []) (kL_keep l hl D cA X Bs b B S (xs (4 * n + 1)) (b + 264) M hb h hk ho hn (.inr (by omega)) (fun _ => ⟨_, (ao_keep (xs (4 * n + 1)) hk)⟩)) (vx_cwSW 3 F.1.2.2.2.2 gL_law_L_keep rfl rfl rfl (by decide +kernel) ⟨Nat.le_of_ble_eq_true rfl, Nat.le_of_ble_eq_true rfl⟩) rfl (Nat.le_of_ble_eq_true rfl) dL_law_871 ⟨by show _ ≤ 601024; omega, by show _ ≤ 7293034; omega⟩ (cq_kI fun r M1 hw => ?_)
  obtain ⟨hr, ha, hck, hfr⟩ := hw
  have hcm : cm M1 (b + 249) S := hc.ext (fun x k1 k2 _ => hfr x (.inr (by omega)) (by omega)) (by rw [hfr _ (.inr (by omega)) (by omega)]) (by rw [hfr _ (.inr (by omega)) (by omega)])
  refine cq_istore F dL_law_874 (by decide) ?_
  refine cq_aload_n F (i := 2) dL_law_876 rfl rfl ?_
  refine w9_cell F hX hbs (n := n) (j := 1) rfl rfl ⟨by omega, by omega⟩ (by decide) dL_law_877 dL_law_878 dL_law_880 dL_law_881 dL_law_882 ?_
  refine cq_callV F (C := RX7) (ci := 8) (As := [.int (xs (4 * n + 1))]) (st := []) (kX7_keep l D cA X Bs (b + 249) B S (xs (4 * n + 1)) M1 hm hcm hk) (cwV 1 F.1.2.2.2.2 gL_law_X7_keep rfl rfl rfl hdVX7_keep ⟨Nat.le_of_ble_eq_true rfl, Nat.le_of_ble_eq_true rfl⟩) hm.kind ⟨by decide, by decide⟩ rfl rfl rfl (Nat.le_of_ble_eq_true rfl) dL_law_883 ⟨by show _ ≤ 601024; omega, by show _ ≤ 7293034; omega⟩ (cq_kI fun r2 M2 hq => ?_)
  obtain ⟨hth, hr2, hcm2, hfr2⟩ := hq
  refine cq_istore F dL_law_886 (by decide) ?_
  refine w9_tail F (q := (op_keep S (xs (4 * n + 1)))) (o := b + 249) (ol := b + 264) (tg := 1702) hm ho hn rfl rfl rfl rfl (by unfold op_keep; repeat' (first | refine w9_ite ?_ ?_ | exact Nat.le_of_ble_eq_true rfl)) hr (fun z => by rw [hfr2 _ (.inr (by omega))]; exact ha z) hth hr2 dL_law_888 dL_law_889 dL_law_892 dL_law_894 dL_law_899 dL_law_901 dL_law_904 dL_law_905 dL_law_906 dL_law_907 dL_law_909 dL_law_910 dL_law_911 dL_law_916 (by decide) ⟨by omega, by omega⟩ ?_
  refine cq_widen (k := cells + 3) (n := slots + 20) (by omega) (by omega) ?_
  refine cq_loc (L2 := [(0, .ref b0), (1, .ref b), (2, .ref (b + 249)), (3, .ref (b + 264)), (4, .int (nI (4 * n)))]) rfl ?_
  exact kk _ M2 (hck.far (ao_keep (xs (4 * n + 1)) hk) (fun x h1 h2 => hfr2 x (.inl (by omega)))) hcm2 (ao_keep (xs (4 * n + 1)) hk)
set_option maxRecDepth 100000 in
set_option maxHeartbeats 4000000 in
theorem w9_case_14 (hl : l.stackTraces = false) {b0 N0 n b B : Nat} {S : as_T} {xs : Nat → Int32} (F : cq_F p s m args meth c D cA Bs 9 cL_law RL wsL_law) (hX : va_X b0 N0 xs s s.heap) (hbs : b0 < s.heap.size ∧ b0 < Bs) (hN : 4 * n + 4 ≤ N0 ∧ N0 ≤ 2048) (hb : cq_isClock X b) (hm : cq_isModel X (b + 249)) (ho : X.1 (b + 264) = 17) (hn : X.2.1 (b + 264) = 1) (h : ck M b S) (hc : cm M (b + 249) S) (hk : as_ok S B) (hB : B < 10000000) (hcs : cells ≤ 500000 ∧ slots ≤ 6000000) (kk : ∀ (S1 : as_T) (M1 : cq_M), ck M1 b S1 → cm M1 (b + 249) S1 → as_ok S1 (B + 4000) → cq_V p l e room_1 s m args below meth c D cA X Bs 9 (cells + 3) (slots + 20) Q 1702 [(0, .ref b0), (1, .ref b), (2, .ref (b + 249)), (3, .ref (b + 264)), (4, .int (nI (4 * n)))] [] M1) : cq_V p l e room_1 s m args below meth c D cA X Bs 9 cells slots Q 919 [(0, .ref b0), (1, .ref b), (2, .ref (b + 249)), (3, .ref (b + 264)), (4, .int (nI (4 * n)))] [] M := by
  refine cq_aload_n F (i := 1) dL_law_919 rfl rfl ?_
  refine w9_cell F hX hbs (n := n) (j := 1) rfl rfl ⟨by omega, by omega⟩ (by decide) dL_law_920 dL_law_921 dL_law_923 dL_law_924 dL_law_925 ?_
  refine cq_aload_n F (i := 3) dL_law_926 rfl rfl ?_
  refine cq_callX F (As := [.ref b, .int (xs (4 * n + 1)), .ref (b + 264)]) (st := []) (kL_goBack l hl D cA X Bs b B S (xs (4 * n + 1)) (b + 264) M hb h hk ho hn (.inr (by omega)) (fun _ => ⟨_, (ao_back (xs (4 * n + 1)) hk)⟩)) (vx_cwSW 3 F.1.2.2.2.2 gL_law_L_goBack rfl rfl rfl (by decide +kernel) ⟨Nat.le_of_ble_eq_true rfl, Nat.le_of_ble_eq_true rfl⟩) rfl (Nat.le_of_ble_eq_true rfl) dL_law_927 ⟨by show _ ≤ 601024; omega, by show _ ≤ 7293034; omega⟩ (cq_kI fun r M1 hw => ?_)
  obtain ⟨hr, ha, hck, hfr⟩ := hw
  have hcm : cm M1 (b + 249) S := hc.ext (fun x k1 k2 _ => hfr x (.inr (by omega)) (by omega)) (by rw [hfr _ (.inr (by omega)) (by omega)]) (by rw [hfr _ (.inr (by omega)) (by omega)])
  refine cq_istore F dL_law_930 (by decide) ?_
  refine cq_aload_n F (i := 2) dL_law_932 rfl rfl ?_
  refine w9_cell F hX hbs (n := n) (j := 1) rfl rfl ⟨by omega, by omega⟩ (by decide) dL_law_933 dL_law_934 dL_law_936 dL_law_937 dL_law_938 ?_
  refine cq_callV F (C := RX7) (ci := 8) (As := [.int (xs (4 * n + 1))]) (st := []) (kX7_goBack l D cA X Bs (b + 249) B S (xs (4 * n + 1)) M1 hm hcm hk) (cwV 1 F.1.2.2.2.2 gL_law_X7_goBack rfl rfl rfl hdVX7_goBack ⟨Nat.le_of_ble_eq_true rfl, Nat.le_of_ble_eq_true rfl⟩) hm.kind ⟨by decide, by decide⟩ rfl rfl rfl (Nat.le_of_ble_eq_true rfl) dL_law_939 ⟨by show _ ≤ 601024; omega, by show _ ≤ 7293034; omega⟩ (cq_kI fun r2 M2 hq => ?_)
  obtain ⟨hth, hr2, hcm2, hfr2⟩ := hq
  refine cq_istore F dL_law_942 (by decide) ?_
  refine w9_tail F (q := (op_back S (xs (4 * n + 1)))) (o := b + 249) (ol := b + 264) (tg := 1702) hm ho hn rfl rfl rfl rfl (by unfold op_back; repeat' (first | refine w9_ite ?_ ?_ | exact Nat.le_of_ble_eq_true rfl)) hr (fun z => by rw [hfr2 _ (.inr (by omega))]; exact ha z) hth hr2 dL_law_944 dL_law_945 dL_law_948 dL_law_950 dL_law_955 dL_law_957 dL_law_960 dL_law_961 dL_law_962 dL_law_963 dL_law_965 dL_law_966 dL_law_967 dL_law_972 (by decide) ⟨by omega, by omega⟩ ?_
  refine cq_widen (k := cells + 3) (n := slots + 20) (by omega) (by omega) ?_
  refine cq_loc (L2 := [(0, .ref b0), (1, .ref b), (2, .ref (b + 249)), (3, .ref (b + 264)), (4, .int (nI (4 * n)))]) rfl ?_
  exact kk _ M2 (hck.far (ao_back (xs (4 * n + 1)) hk) (fun x h1 h2 => hfr2 x (.inl (by omega)))) hcm2 (ao_back (xs (4 * n + 1)) hk)
set_option maxRecDepth 100000 in
set_option maxHeartbeats 4000000 in
theorem w9_case_15 (hl : l.stackTraces = false) {b0 N0 n b B : Nat} {S : as_T} {xs : Nat → Int32} (F : cq_F p s m args meth c D cA Bs 9 cL_law RL wsL_law) (hX : va_X b0 N0 xs s s.heap) (hbs : b0 < s.heap.size ∧ b0 < Bs) (hN : 4 * n + 4 ≤ N0 ∧ N0 ≤ 2048) (hb : cq_isClock X b) (hm : cq_isModel X (b + 249)) (ho : X.1 (b + 264) = 17) (hn : X.2.1 (b + 264) = 1) (h : ck M b S) (hc : cm M (b + 249) S) (hk : as_ok S B) (hB : B < 10000000) (hcs : cells ≤ 500000 ∧ slots ≤ 6000000) (kk : ∀ (S1 : as_T) (M1 : cq_M), ck M1 b S1 → cm M1 (b + 249) S1 → as_ok S1 (B + 4000) → cq_V p l e room_1 s m args below meth c D cA X Bs 9 (cells + 3) (slots + 20) Q 1702 [(0, .ref b0), (1, .ref b), (2, .ref (b + 249)), (3, .ref (b + 264)), (4, .int (nI (4 * n)))] [] M1) : cq_V p l e room_1 s m args below meth c D cA X Bs 9 cells slots Q 975 [(0, .ref b0), (1, .ref b), (2, .ref (b + 249)), (3, .ref (b + 264)), (4, .int (nI (4 * n)))] [] M := by
  refine cq_aload_n F (i := 1) dL_law_975 rfl rfl ?_
  refine w9_cell F hX hbs (n := n) (j := 1) rfl rfl ⟨by omega, by omega⟩ (by decide) dL_law_976 dL_law_977 dL_law_979 dL_law_980 dL_law_981 ?_
  refine w9_cell F hX hbs (n := n) (j := 2) rfl rfl ⟨by omega, by omega⟩ (by decide) dL_law_982 dL_law_983 dL_law_985 dL_law_986 dL_law_987 ?_
  refine cq_aload_n F (i := 3) dL_law_988 rfl rfl ?_
  refine cq_callX F (As := [.ref b, .int (xs (4 * n + 1)), .int (xs (4 * n + 2)), .ref (b + 264)]) (st := []) (kL_cordOf l hl D cA X Bs b B S (xs (4 * n + 1)) (xs (4 * n + 2)) (b + 264) M hb h hk ho hn (.inr (by omega)) (fun _ => ⟨_, (ao_cordOf (xs (4 * n + 1)) (xs (4 * n + 2)) hk)⟩)) (vx_cwSW 4 F.1.2.2.2.2 gL_law_L_cordOf rfl rfl rfl (by decide +kernel) ⟨Nat.le_of_ble_eq_true rfl, Nat.le_of_ble_eq_true rfl⟩) rfl (Nat.le_of_ble_eq_true rfl) dL_law_989 ⟨by show _ ≤ 601024; omega, by show _ ≤ 7293034; omega⟩ (cq_kI fun r M1 hw => ?_)
  obtain ⟨hr, ha, hck, hfr⟩ := hw
  have hcm : cm M1 (b + 249) S := hc.ext (fun x k1 k2 _ => hfr x (.inr (by omega)) (by omega)) (by rw [hfr _ (.inr (by omega)) (by omega)]) (by rw [hfr _ (.inr (by omega)) (by omega)])
  refine cq_istore F dL_law_992 (by decide) ?_
  refine cq_aload_n F (i := 2) dL_law_994 rfl rfl ?_
  refine w9_cell F hX hbs (n := n) (j := 1) rfl rfl ⟨by omega, by omega⟩ (by decide) dL_law_995 dL_law_996 dL_law_998 dL_law_999 dL_law_1000 ?_
  refine w9_cell F hX hbs (n := n) (j := 2) rfl rfl ⟨by omega, by omega⟩ (by decide) dL_law_1001 dL_law_1002 dL_law_1004 dL_law_1005 dL_law_1006 ?_
  refine cq_callV F (C := RX7) (ci := 8) (As := [.int (xs (4 * n + 1)), .int (xs (4 * n + 2))]) (st := []) (kX7_cordOf l D cA X Bs (b + 249) B S (xs (4 * n + 1)) (xs (4 * n + 2)) M1 hm hcm hk) (cwV 2 F.1.2.2.2.2 gL_law_X7_cordOf rfl rfl rfl hdVX7_cordOf ⟨Nat.le_of_ble_eq_true rfl, Nat.le_of_ble_eq_true rfl⟩) hm.kind ⟨by decide, by decide⟩ rfl rfl rfl (Nat.le_of_ble_eq_true rfl) dL_law_1007 ⟨by show _ ≤ 601024; omega, by show _ ≤ 7293034; omega⟩ (cq_kI fun r2 M2 hq => ?_)
  obtain ⟨hth, hr2, hcm2, hfr2⟩ := hq
  refine cq_istore F dL_law_1010 (by decide) ?_
  refine w9_tail F (q := (op_cordOf S (xs (4 * n + 1)) (xs (4 * n + 2)))) (o := b + 249) (ol := b + 264) (tg := 1702) hm ho hn rfl rfl rfl rfl (by unfold op_cordOf; repeat' (first | refine w9_ite ?_ ?_ | exact Nat.le_of_ble_eq_true rfl)) hr (fun z => by rw [hfr2 _ (.inr (by omega))]; exact ha z) hth hr2 dL_law_1012 dL_law_1013 dL_law_1016 dL_law_1018 dL_law_1023 dL_law_1025 dL_law_1028 dL_law_1029 dL_law_1030 dL_law_1031 dL_law_1033 dL_law_1034 dL_law_1035 dL_law_1040 (by decide) ⟨by omega, by omega⟩ ?_
  refine cq_widen (k := cells + 3) (n := slots + 20) (by omega) (by omega) ?_
  refine cq_loc (L2 := [(0, .ref b0), (1, .ref b), (2, .ref (b + 249)), (3, .ref (b + 264)), (4, .int (nI (4 * n)))]) rfl ?_
  exact kk _ M2 (hck.far (ao_cordOf (xs (4 * n + 1)) (xs (4 * n + 2)) hk) (fun x h1 h2 => hfr2 x (.inl (by omega)))) hcm2 (ao_cordOf (xs (4 * n + 1)) (xs (4 * n + 2)) hk)
set_option maxRecDepth 100000 in
set_option maxHeartbeats 4000000 in
theorem w9_case_16 (hl : l.stackTraces = false) {b0 N0 n b B : Nat} {S : as_T} {xs : Nat → Int32} (F : cq_F p s m args meth c D cA Bs 9 cL_law RL wsL_law) (hX : va_X b0 N0 xs s s.heap) (hbs : b0 < s.heap.size ∧ b0 < Bs) (hN : 4 * n + 4 ≤ N0 ∧ N0 ≤ 2048) (hb : cq_isClock X b) (hm : cq_isModel X (b + 249)) (ho : X.1 (b + 264) = 17) (hn : X.2.1 (b + 264) = 1) (h : ck M b S) (hc : cm M (b + 249) S) (hk : as_ok S B) (hB : B < 10000000) (hcs : cells ≤ 500000 ∧ slots ≤ 6000000) (kk : ∀ (S1 : as_T) (M1 : cq_M), ck M1 b S1 → cm M1 (b + 249) S1 → as_ok S1 (B + 4000) → cq_V p l e room_1 s m args below meth c D cA X Bs 9 (cells + 3) (slots + 20) Q 1702 [(0, .ref b0), (1, .ref b), (2, .ref (b + 249)), (3, .ref (b + 264)), (4, .int (nI (4 * n)))] [] M1) : cq_V p l e room_1 s m args below meth c D cA X Bs 9 cells slots Q 1043 [(0, .ref b0), (1, .ref b), (2, .ref (b + 249)), (3, .ref (b + 264)), (4, .int (nI (4 * n)))] [] M := by
  refine cq_aload_n F (i := 1) dL_law_1043 rfl rfl ?_
  refine w9_cell F hX hbs (n := n) (j := 1) rfl rfl ⟨by omega, by omega⟩ (by decide) dL_law_1044 dL_law_1045 dL_law_1047 dL_law_1048 dL_law_1049 ?_
  refine w9_cell F hX hbs (n := n) (j := 2) rfl rfl ⟨by omega, by omega⟩ (by decide) dL_law_1050 dL_law_1051 dL_law_1053 dL_law_1054 dL_law_1055 ?_
  refine cq_aload_n F (i := 3) dL_law_1056 rfl rfl ?_
  refine cq_callX F (As := [.ref b, .int (xs (4 * n + 1)), .int (xs (4 * n + 2)), .ref (b + 264)]) (st := []) (kL_segment l hl D cA X Bs b B S (xs (4 * n + 1)) (xs (4 * n + 2)) (b + 264) M hb h hk ho hn (.inr (by omega)) (fun _ => ⟨_, (ao_segment (xs (4 * n + 1)) (xs (4 * n + 2)) hk)⟩)) (vx_cwSW 4 F.1.2.2.2.2 gL_law_L_segment rfl rfl rfl (by decide +kernel) ⟨Nat.le_of_ble_eq_true rfl, Nat.le_of_ble_eq_true rfl⟩) rfl (Nat.le_of_ble_eq_true rfl) dL_law_1057 ⟨by show _ ≤ 601024; omega, by show _ ≤ 7293034; omega⟩ (cq_kI fun r M1 hw => ?_)
  obtain ⟨hr, ha, hck, hfr⟩ := hw
  have hcm : cm M1 (b + 249) S := hc.ext (fun x k1 k2 _ => hfr x (.inr (by omega)) (by omega)) (by rw [hfr _ (.inr (by omega)) (by omega)]) (by rw [hfr _ (.inr (by omega)) (by omega)])
  refine cq_istore F dL_law_1060 (by decide) ?_
  refine cq_aload_n F (i := 2) dL_law_1062 rfl rfl ?_
  refine w9_cell F hX hbs (n := n) (j := 1) rfl rfl ⟨by omega, by omega⟩ (by decide) dL_law_1063 dL_law_1064 dL_law_1066 dL_law_1067 dL_law_1068 ?_
  refine w9_cell F hX hbs (n := n) (j := 2) rfl rfl ⟨by omega, by omega⟩ (by decide) dL_law_1069 dL_law_1070 dL_law_1072 dL_law_1073 dL_law_1074 ?_
  refine cq_callV F (C := RX7) (ci := 8) (As := [.int (xs (4 * n + 1)), .int (xs (4 * n + 2))]) (st := []) (kX7_segment l D cA X Bs (b + 249) B S (xs (4 * n + 1)) (xs (4 * n + 2)) M1 hm hcm hk) (cwV 2 F.1.2.2.2.2 gL_law_X7_segment rfl rfl rfl hdVX7_segment ⟨Nat.le_of_ble_eq_true rfl, Nat.le_of_ble_eq_true rfl⟩) hm.kind ⟨by decide, by decide⟩ rfl rfl rfl (Nat.le_of_ble_eq_true rfl) dL_law_1075 ⟨by show _ ≤ 601024; omega, by show _ ≤ 7293034; omega⟩ (cq_kI fun r2 M2 hq => ?_)
  obtain ⟨hth, hr2, hcm2, hfr2⟩ := hq
  refine cq_istore F dL_law_1078 (by decide) ?_
  refine w9_tail F (q := (op_segment S (xs (4 * n + 1)) (xs (4 * n + 2)))) (o := b + 249) (ol := b + 264) (tg := 1702) hm ho hn rfl rfl rfl rfl (by unfold op_segment; repeat' (first | refine w9_ite ?_ ?_ | exact Nat.le_of_ble_eq_true rfl)) hr (fun z => by rw [hfr2 _ (.inr (by omega))]; exact ha z) hth hr2 dL_law_1080 dL_law_1081 dL_law_1084 dL_law_1086 dL_law_1091 dL_law_1093 dL_law_1096 dL_law_1097 dL_law_1098 dL_law_1099 dL_law_1101 dL_law_1102 dL_law_1103 dL_law_1108 (by decide) ⟨by omega, by omega⟩ ?_
  refine cq_widen (k := cells + 3) (n := slots + 20) (by omega) (by omega) ?_
  refine cq_loc (L2 := [(0, .ref b0), (1, .ref b), (2, .ref (b + 249)), (3, .ref (b + 264)), (4, .int (nI (4 * n)))]) rfl ?_
  exact kk _ M2 (hck.far (ao_segment (xs (4 * n + 1)) (xs (4 * n + 2)) hk) (fun x h1 h2 => hfr2 x (.inl (by omega)))) hcm2 (ao_segment (xs (4 * n + 1)) (xs (4 * n + 2)) hk)
set_option maxRecDepth 100000 in
set_option maxHeartbeats 4000000 in
theorem w9_case_17 (hl : l.stackTraces = false) {b0 N0 n b B : Nat} {S : as_T} {xs : Nat → Int32} (F : cq_F p s m args meth c D cA Bs 9 cL_law RL wsL_law) (hX : va_X b0 N0 xs s s.heap) (hbs : b0 < s.heap.size ∧ b0 < Bs) (hN : 4 * n + 4 ≤ N0 ∧ N0 ≤ 2048) (hb : cq_isClock X b) (hm : cq_isModel X (b + 249)) (ho : X.1 (b + 264) = 17) (hn : X.2.1 (b + 264) = 1) (h : ck M b S) (hc : cm M (b + 249) S) (hk : as_ok S B) (hB : B < 10000000) (hcs : cells ≤ 500000 ∧ slots ≤ 6000000) (kk : ∀ (S1 : as_T) (M1 : cq_M), ck M1 b S1 → cm M1 (b + 249) S1 → as_ok S1 (B + 4000) → cq_V p l e room_1 s m args below meth c D cA X Bs 9 (cells + 3) (slots + 20) Q 1702 [(0, .ref b0), (1, .ref b), (2, .ref (b + 249)), (3, .ref (b + 264)), (4, .int (nI (4 * n)))] [] M1) : cq_V p l e room_1 s m args below meth c D cA X Bs 9 cells slots Q 1111 [(0, .ref b0), (1, .ref b), (2, .ref (b + 249)), (3, .ref (b + 264)), (4, .int (nI (4 * n)))] [] M := by
  refine cq_aload_n F (i := 1) dL_law_1111 rfl rfl ?_
  refine w9_cell F hX hbs (n := n) (j := 1) rfl rfl ⟨by omega, by omega⟩ (by decide) dL_law_1112 dL_law_1113 dL_law_1115 dL_law_1116 dL_law_1117 ?_
  refine w9_cell F hX hbs (n := n) (j := 2) rfl rfl ⟨by omega, by omega⟩ (by decide) dL_law_1118 dL_law_1119 dL_law_1121 dL_law_1122 dL_law_1123 ?_
  refine w9_bool F dL_law_1124 dL_law_1127 dL_law_1128 dL_law_1131 ?_
  refine cq_aload_n F (i := 3) dL_law_1132 rfl rfl ?_
  refine cq_callX F (As := [.ref b, .int (xs (4 * n + 1)), .int (nI (w9_b (xs (4 * n + 2)))), .ref (b + 264)]) (st := []) (kL_front l hl D cA X Bs b B S (xs (4 * n + 1)) (nI (w9_b (xs (4 * n + 2)))) (b + 264) M hb h hk ho hn (.inr (by omega)) (fun _ => ⟨_, (ao_front (xs (4 * n + 1)) (nI (w9_b (xs (4 * n + 2)))) hk)⟩)) (vx_cwSW 4 F.1.2.2.2.2 gL_law_L_front rfl rfl rfl (by decide +kernel) ⟨Nat.le_of_ble_eq_true rfl, Nat.le_of_ble_eq_true rfl⟩) rfl (Nat.le_of_ble_eq_true rfl) dL_law_1133 ⟨by show _ ≤ 601024; omega, by show _ ≤ 7293034; omega⟩ (cq_kI fun r M1 hw => ?_)
  obtain ⟨hr, ha, hck, hfr⟩ := hw
  have hcm : cm M1 (b + 249) S := hc.ext (fun x k1 k2 _ => hfr x (.inr (by omega)) (by omega)) (by rw [hfr _ (.inr (by omega)) (by omega)]) (by rw [hfr _ (.inr (by omega)) (by omega)])
  refine cq_istore F dL_law_1136 (by decide) ?_
  refine cq_aload_n F (i := 2) dL_law_1138 rfl rfl ?_
  refine w9_cell F hX hbs (n := n) (j := 1) rfl rfl ⟨by omega, by omega⟩ (by decide) dL_law_1139 dL_law_1140 dL_law_1142 dL_law_1143 dL_law_1144 ?_
  refine w9_cell F hX hbs (n := n) (j := 2) rfl rfl ⟨by omega, by omega⟩ (by decide) dL_law_1145 dL_law_1146 dL_law_1148 dL_law_1149 dL_law_1150 ?_
  refine w9_bool F dL_law_1151 dL_law_1154 dL_law_1155 dL_law_1158 ?_
  refine cq_callV F (C := RX7) (ci := 8) (As := [.int (xs (4 * n + 1)), .int (nI (w9_b (xs (4 * n + 2))))]) (st := []) (kX7_front l D cA X Bs (b + 249) B S (xs (4 * n + 1)) (nI (w9_b (xs (4 * n + 2)))) M1 hm hcm hk) (cwV 2 F.1.2.2.2.2 gL_law_X7_front rfl rfl rfl hdVX7_front ⟨Nat.le_of_ble_eq_true rfl, Nat.le_of_ble_eq_true rfl⟩) hm.kind ⟨by decide, by decide⟩ rfl rfl rfl (Nat.le_of_ble_eq_true rfl) dL_law_1159 ⟨by show _ ≤ 601024; omega, by show _ ≤ 7293034; omega⟩ (cq_kI fun r2 M2 hq => ?_)
  obtain ⟨hth, hr2, hcm2, hfr2⟩ := hq
  refine cq_istore F dL_law_1162 (by decide) ?_
  refine w9_tail F (q := (op_front S (xs (4 * n + 1)) (nI (w9_b (xs (4 * n + 2)))))) (o := b + 249) (ol := b + 264) (tg := 1702) hm ho hn rfl rfl rfl rfl (by unfold op_front; repeat' (first | refine w9_ite ?_ ?_ | exact Nat.le_of_ble_eq_true rfl)) hr (fun z => by rw [hfr2 _ (.inr (by omega))]; exact ha z) hth hr2 dL_law_1164 dL_law_1165 dL_law_1168 dL_law_1170 dL_law_1175 dL_law_1177 dL_law_1180 dL_law_1181 dL_law_1182 dL_law_1183 dL_law_1185 dL_law_1186 dL_law_1187 dL_law_1192 (by decide) ⟨by omega, by omega⟩ ?_
  refine cq_widen (k := cells + 3) (n := slots + 20) (by omega) (by omega) ?_
  refine cq_loc (L2 := [(0, .ref b0), (1, .ref b), (2, .ref (b + 249)), (3, .ref (b + 264)), (4, .int (nI (4 * n)))]) rfl ?_
  exact kk _ M2 (hck.far (ao_front (xs (4 * n + 1)) (nI (w9_b (xs (4 * n + 2)))) hk) (fun x h1 h2 => hfr2 x (.inl (by omega)))) hcm2 (ao_front (xs (4 * n + 1)) (nI (w9_b (xs (4 * n + 2)))) hk)
set_option maxRecDepth 100000 in
set_option maxHeartbeats 4000000 in
theorem w9_case_18 (hl : l.stackTraces = false) {b0 N0 n b B : Nat} {S : as_T} {xs : Nat → Int32} (F : cq_F p s m args meth c D cA Bs 9 cL_law RL wsL_law) (hX : va_X b0 N0 xs s s.heap) (hbs : b0 < s.heap.size ∧ b0 < Bs) (hN : 4 * n + 4 ≤ N0 ∧ N0 ≤ 2048) (hb : cq_isClock X b) (hm : cq_isModel X (b + 249)) (ho : X.1 (b + 264) = 17) (hn : X.2.1 (b + 264) = 1) (h : ck M b S) (hc : cm M (b + 249) S) (hk : as_ok S B) (hB : B < 10000000) (hcs : cells ≤ 500000 ∧ slots ≤ 6000000) (kk : ∀ (S1 : as_T) (M1 : cq_M), ck M1 b S1 → cm M1 (b + 249) S1 → as_ok S1 (B + 4000) → cq_V p l e room_1 s m args below meth c D cA X Bs 9 (cells + 3) (slots + 20) Q 1702 [(0, .ref b0), (1, .ref b), (2, .ref (b + 249)), (3, .ref (b + 264)), (4, .int (nI (4 * n)))] [] M1) : cq_V p l e room_1 s m args below meth c D cA X Bs 9 cells slots Q 1195 [(0, .ref b0), (1, .ref b), (2, .ref (b + 249)), (3, .ref (b + 264)), (4, .int (nI (4 * n)))] [] M := by
  refine cq_aload_n F (i := 1) dL_law_1195 rfl rfl ?_
  refine w9_cell F hX hbs (n := n) (j := 1) rfl rfl ⟨by omega, by omega⟩ (by decide) dL_law_1196 dL_law_1197 dL_law_1199 dL_law_1200 dL_law_1201 ?_
  refine w9_cell F hX hbs (n := n) (j := 2) rfl rfl ⟨by omega, by omega⟩ (by decide) dL_law_1202 dL_law_1203 dL_law_1205 dL_law_1206 dL_law_1207 ?_
  refine cq_aload_n F (i := 3) dL_law_1208 rfl rfl ?_
  refine cq_callX F (As := [.ref b, .int (xs (4 * n + 1)), .int (xs (4 * n + 2)), .ref (b + 264)]) (st := []) (kL_ruleOf l hl D cA X Bs b B S (xs (4 * n + 1)) (xs (4 * n + 2)) (b + 264) M hb h hk ho hn (.inr (by omega)) (fun _ => ⟨_, (ao_ruleOf (xs (4 * n + 1)) (xs (4 * n + 2)) hk)⟩)) (vx_cwSW 4 F.1.2.2.2.2 gL_law_L_ruleOf rfl rfl rfl (by decide +kernel) ⟨Nat.le_of_ble_eq_true rfl, Nat.le_of_ble_eq_true rfl⟩) rfl (Nat.le_of_ble_eq_true rfl) dL_law_1209 ⟨by show _ ≤ 601024; omega, by show _ ≤ 7293034; omega⟩ (cq_kI fun r M1 hw => ?_)
  obtain ⟨hr, ha, hck, hfr⟩ := hw
  have hcm : cm M1 (b + 249) S := hc.ext (fun x k1 k2 _ => hfr x (.inr (by omega)) (by omega)) (by rw [hfr _ (.inr (by omega)) (by omega)]) (by rw [hfr _ (.inr (by omega)) (by omega)])
  refine cq_istore F dL_law_1212 (by decide) ?_
  refine cq_aload_n F (i := 2) dL_law_1214 rfl rfl ?_
  refine w9_cell F hX hbs (n := n) (j := 1) rfl rfl ⟨by omega, by omega⟩ (by decide) dL_law_1215 dL_law_1216 dL_law_1218 dL_law_1219 dL_law_1220 ?_
  refine w9_cell F hX hbs (n := n) (j := 2) rfl rfl ⟨by omega, by omega⟩ (by decide) dL_law_1221 dL_law_1222 dL_law_1224 dL_law_1225 dL_law_1226 ?_
  refine cq_callV F (C := RX7) (ci := 8) (As := [.int (xs (4 * n + 1)), .int (xs (4 * n + 2))]) (st := []) (kX7_ruleOf l D cA X Bs (b + 249) B S (xs (4 * n + 1)) (xs (4 * n + 2)) M1 hm hcm hk) (cwV 2 F.1.2.2.2.2 gL_law_X7_ruleOf rfl rfl rfl hdVX7_ruleOf ⟨Nat.le_of_ble_eq_true rfl, Nat.le_of_ble_eq_true rfl⟩) hm.kind ⟨by decide, by decide⟩ rfl rfl rfl (Nat.le_of_ble_eq_true rfl) dL_law_1227 ⟨by show _ ≤ 601024; omega, by show _ ≤ 7293034; omega⟩ (cq_kI fun r2 M2 hq => ?_)
  obtain ⟨hth, hr2, hcm2, hfr2⟩ := hq
  refine cq_istore F dL_law_1230 (by decide) ?_
  refine w9_tail F (q := (op_ruleOf S (xs (4 * n + 1)) (xs (4 * n + 2)))) (o := b + 249) (ol := b + 264) (tg := 1702) hm ho hn rfl rfl rfl rfl (by unfold op_ruleOf; repeat' (first | refine w9_ite ?_ ?_ | exact Nat.le_of_ble_eq_true rfl)) hr (fun z => by rw [hfr2 _ (.inr (by omega))]; exact ha z) hth hr2 dL_law_1232 dL_law_1233 dL_law_1236 dL_law_1238 dL_law_1243 dL_law_1245 dL_law_1248 dL_law_1249 dL_law_1250 dL_law_1251 dL_law_1253 dL_law_1254 dL_law_1255 dL_law_1260 (by decide) ⟨by omega, by omega⟩ ?_
  refine cq_widen (k := cells + 3) (n := slots + 20) (by omega) (by omega) ?_
  refine cq_loc (L2 := [(0, .ref b0), (1, .ref b), (2, .ref (b + 249)), (3, .ref (b + 264)), (4, .int (nI (4 * n)))]) rfl ?_
  exact kk _ M2 (hck.far (ao_ruleOf (xs (4 * n + 1)) (xs (4 * n + 2)) hk) (fun x h1 h2 => hfr2 x (.inl (by omega)))) hcm2 (ao_ruleOf (xs (4 * n + 1)) (xs (4 * n + 2)) hk)
set_option maxRecDepth 100000 in
set_option maxHeartbeats 4000000 in
theorem w9_case_19 (hl : l.stackTraces = false) {b0 N0 n b B : Nat} {S : as_T} {xs : Nat → Int32} (F : cq_F p s m args meth c D cA Bs 9 cL_law RL wsL_law) (hX : va_X b0 N0 xs s s.heap) (hbs : b0 < s.heap.size ∧ b0 < Bs) (hN : 4 * n + 4 ≤ N0 ∧ N0 ≤ 2048) (hb : cq_isClock X b) (hm : cq_isModel X (b + 249)) (ho : X.1 (b + 264) = 17) (hn : X.2.1 (b + 264) = 1) (h : ck M b S) (hc : cm M (b + 249) S) (hk : as_ok S B) (hB : B < 10000000) (hcs : cells ≤ 500000 ∧ slots ≤ 6000000) (kk : ∀ (S1 : as_T) (M1 : cq_M), ck M1 b S1 → cm M1 (b + 249) S1 → as_ok S1 (B + 4000) → cq_V p l e room_1 s m args below meth c D cA X Bs 9 (cells + 3) (slots + 20) Q 1702 [(0, .ref b0), (1, .ref b), (2, .ref (b + 249)), (3, .ref (b + 264)), (4, .int (nI (4 * n)))] [] M1) : cq_V p l e room_1 s m args below meth c D cA X Bs 9 cells slots Q 1263 [(0, .ref b0), (1, .ref b), (2, .ref (b + 249)), (3, .ref (b + 264)), (4, .int (nI (4 * n)))] [] M := by
  refine cq_aload_n F (i := 1) dL_law_1263 rfl rfl ?_
  refine w9_cell F hX hbs (n := n) (j := 1) rfl rfl ⟨by omega, by omega⟩ (by decide) dL_law_1264 dL_law_1265 dL_law_1267 dL_law_1268 dL_law_1269 ?_
  refine cq_aload_n F (i := 3) dL_law_1270 rfl rfl ?_
  refine cq_callX F (As := [.ref b, .int (xs (4 * n + 1)), .ref (b + 264)]) (st := []) (kL_count l hl D cA X Bs b B S (xs (4 * n + 1)) (b + 264) M hb h hk ho hn (.inr (by omega)) (fun _ => ⟨_, (ao_count (xs (4 * n + 1)) hk)⟩)) (vx_cwSW 3 F.1.2.2.2.2 gL_law_L_count rfl rfl rfl (by decide +kernel) ⟨Nat.le_of_ble_eq_true rfl, Nat.le_of_ble_eq_true rfl⟩) rfl (Nat.le_of_ble_eq_true rfl) dL_law_1271 ⟨by show _ ≤ 601024; omega, by show _ ≤ 7293034; omega⟩ (cq_kI fun r M1 hw => ?_)
  obtain ⟨hr, ha, hck, hfr⟩ := hw
  have hcm : cm M1 (b + 249) S := hc.ext (fun x k1 k2 _ => hfr x (.inr (by omega)) (by omega)) (by rw [hfr _ (.inr (by omega)) (by omega)]) (by rw [hfr _ (.inr (by omega)) (by omega)])
  refine cq_istore F dL_law_1274 (by decide) ?_
  refine cq_aload_n F (i := 2) dL_law_1276 rfl rfl ?_
  refine w9_cell F hX hbs (n := n) (j := 1) rfl rfl ⟨by omega, by omega⟩ (by decide) dL_law_1277 dL_law_1278 dL_law_1280 dL_law_1281 dL_law_1282 ?_
  refine cq_callV F (C := RX7) (ci := 8) (As := [.int (xs (4 * n + 1))]) (st := []) (kX7_count l D cA X Bs (b + 249) B S (xs (4 * n + 1)) M1 hm hcm hk) (cwV 1 F.1.2.2.2.2 gL_law_X7_count rfl rfl rfl hdVX7_count ⟨Nat.le_of_ble_eq_true rfl, Nat.le_of_ble_eq_true rfl⟩) hm.kind ⟨by decide, by decide⟩ rfl rfl rfl (Nat.le_of_ble_eq_true rfl) dL_law_1283 ⟨by show _ ≤ 601024; omega, by show _ ≤ 7293034; omega⟩ (cq_kI fun r2 M2 hq => ?_)
  obtain ⟨hth, hr2, hcm2, hfr2⟩ := hq
  refine cq_istore F dL_law_1286 (by decide) ?_
  refine w9_tail F (q := (op_count S (xs (4 * n + 1)))) (o := b + 249) (ol := b + 264) (tg := 1702) hm ho hn rfl rfl rfl rfl (by unfold op_count; repeat' (first | refine w9_ite ?_ ?_ | exact Nat.le_of_ble_eq_true rfl)) hr (fun z => by rw [hfr2 _ (.inr (by omega))]; exact ha z) hth hr2 dL_law_1288 dL_law_1289 dL_law_1292 dL_law_1294 dL_law_1299 dL_law_1301 dL_law_1304 dL_law_1305 dL_law_1306 dL_law_1307 dL_law_1309 dL_law_1310 dL_law_1311 dL_law_1316 (by decide) ⟨by omega, by omega⟩ ?_
  refine cq_widen (k := cells + 3) (n := slots + 20) (by omega) (by omega) ?_
  refine cq_loc (L2 := [(0, .ref b0), (1, .ref b), (2, .ref (b + 249)), (3, .ref (b + 264)), (4, .int (nI (4 * n)))]) rfl ?_
  exact kk _ M2 (hck.far (ao_count (xs (4 * n + 1)) hk) (fun x h1 h2 => hfr2 x (.inl (by omega)))) hcm2 (ao_count (xs (4 * n + 1)) hk)
set_option maxRecDepth 100000 in
set_option maxHeartbeats 4000000 in
theorem w9_case_20 (hl : l.stackTraces = false) {b0 N0 n b B : Nat} {S : as_T} {xs : Nat → Int32} (F : cq_F p s m args meth c D cA Bs 9 cL_law RL wsL_law) (hX : va_X b0 N0 xs s s.heap) (hbs : b0 < s.heap.size ∧ b0 < Bs) (hN : 4 * n + 4 ≤ N0 ∧ N0 ≤ 2048) (hb : cq_isClock X b) (hm : cq_isModel X (b + 249)) (ho : X.1 (b + 264) = 17) (hn : X.2.1 (b + 264) = 1) (h : ck M b S) (hc : cm M (b + 249) S) (hk : as_ok S B) (hB : B < 10000000) (hcs : cells ≤ 500000 ∧ slots ≤ 6000000) (kk : ∀ (S1 : as_T) (M1 : cq_M), ck M1 b S1 → cm M1 (b + 249) S1 → as_ok S1 (B + 4000) → cq_V p l e room_1 s m args below meth c D cA X Bs 9 (cells + 3) (slots + 20) Q 1702 [(0, .ref b0), (1, .ref b), (2, .ref (b + 249)), (3, .ref (b + 264)), (4, .int (nI (4 * n)))] [] M1) : cq_V p l e room_1 s m args below meth c D cA X Bs 9 cells slots Q 1319 [(0, .ref b0), (1, .ref b), (2, .ref (b + 249)), (3, .ref (b + 264)), (4, .int (nI (4 * n)))] [] M := by
  refine cq_aload_n F (i := 1) dL_law_1319 rfl rfl ?_
  refine w9_cell F hX hbs (n := n) (j := 1) rfl rfl ⟨by omega, by omega⟩ (by decide) dL_law_1320 dL_law_1321 dL_law_1323 dL_law_1324 dL_law_1325 ?_
  refine w9_cell F hX hbs (n := n) (j := 2) rfl rfl ⟨by omega, by omega⟩ (by decide) dL_law_1326 dL_law_1327 dL_law_1329 dL_law_1330 dL_law_1331 ?_
  refine cq_aload_n F (i := 3) dL_law_1332 rfl rfl ?_
  refine cq_callX F (As := [.ref b, .int (xs (4 * n + 1)), .int (xs (4 * n + 2)), .ref (b + 264)]) (st := []) (kL_entry l hl D cA X Bs b B S (xs (4 * n + 1)) (xs (4 * n + 2)) (b + 264) M hb h hk hB ho hn (.inr (by omega)) (fun _ => ⟨_, (ao_entry (xs (4 * n + 1)) (xs (4 * n + 2)) hk)⟩)) (vx_cwSW 4 F.1.2.2.2.2 gL_law_L_entry rfl rfl rfl (by decide +kernel) ⟨Nat.le_of_ble_eq_true rfl, Nat.le_of_ble_eq_true rfl⟩) rfl (Nat.le_of_ble_eq_true rfl) dL_law_1333 ⟨by show _ ≤ 601024; omega, by show _ ≤ 7293034; omega⟩ (cq_kI fun r M1 hw => ?_)
  obtain ⟨hr, ha, hck, hfr⟩ := hw
  have hcm : cm M1 (b + 249) S := hc.ext (fun x k1 k2 _ => hfr x (.inr (by omega)) (by omega)) (by rw [hfr _ (.inr (by omega)) (by omega)]) (by rw [hfr _ (.inr (by omega)) (by omega)])
  refine cq_istore F dL_law_1336 (by decide) ?_
  refine cq_aload_n F (i := 2) dL_law_1338 rfl rfl ?_
  refine w9_cell F hX hbs (n := n) (j := 1) rfl rfl ⟨by omega, by omega⟩ (by decide) dL_law_1339 dL_law_1340 dL_law_1342 dL_law_1343 dL_law_1344 ?_
  refine w9_cell F hX hbs (n := n) (j := 2) rfl rfl ⟨by omega, by omega⟩ (by decide) dL_law_1345 dL_law_1346 dL_law_1348 dL_law_1349 dL_law_1350 ?_
  refine cq_callV F (C := RX7) (ci := 8) (As := [.int (xs (4 * n + 1)), .int (xs (4 * n + 2))]) (st := []) (kX7_entry l D cA X Bs (b + 249) B S (xs (4 * n + 1)) (xs (4 * n + 2)) M1 hm hcm hk hB) (cwV 2 F.1.2.2.2.2 gL_law_X7_entry rfl rfl rfl hdVX7_entry ⟨Nat.le_of_ble_eq_true rfl, Nat.le_of_ble_eq_true rfl⟩) hm.kind ⟨by decide, by decide⟩ rfl rfl rfl (Nat.le_of_ble_eq_true rfl) dL_law_1351 ⟨by show _ ≤ 601024; omega, by show _ ≤ 7293034; omega⟩ (cq_kI fun r2 M2 hq => ?_)
  obtain ⟨hth, hr2, hcm2, hfr2⟩ := hq
  refine cq_istore F dL_law_1354 (by decide) ?_
  refine w9_tail F (q := (op_entry S (xs (4 * n + 1)) (xs (4 * n + 2)))) (o := b + 249) (ol := b + 264) (tg := 1702) hm ho hn rfl rfl rfl rfl (by unfold op_entry; repeat' (first | refine w9_ite ?_ ?_ | exact Nat.le_of_ble_eq_true rfl)) hr (fun z => by rw [hfr2 _ (.inr (by omega))]; exact ha z) hth hr2 dL_law_1356 dL_law_1357 dL_law_1360 dL_law_1362 dL_law_1367 dL_law_1369 dL_law_1372 dL_law_1373 dL_law_1374 dL_law_1375 dL_law_1377 dL_law_1378 dL_law_1379 dL_law_1384 (by decide) ⟨by omega, by omega⟩ ?_
  refine cq_widen (k := cells + 3) (n := slots + 20) (by omega) (by omega) ?_
  refine cq_loc (L2 := [(0, .ref b0), (1, .ref b), (2, .ref (b + 249)), (3, .ref (b + 264)), (4, .int (nI (4 * n)))]) rfl ?_
  exact kk _ M2 (hck.far (ao_entry (xs (4 * n + 1)) (xs (4 * n + 2)) hk) (fun x h1 h2 => hfr2 x (.inl (by omega)))) hcm2 (ao_entry (xs (4 * n + 1)) (xs (4 * n + 2)) hk)
set_option maxRecDepth 100000 in
set_option maxHeartbeats 4000000 in
theorem w9_case_21 (hl : l.stackTraces = false) {b0 N0 n b B : Nat} {S : as_T} {xs : Nat → Int32} (F : cq_F p s m args meth c D cA Bs 9 cL_law RL wsL_law) (hX : va_X b0 N0 xs s s.heap) (hbs : b0 < s.heap.size ∧ b0 < Bs) (hN : 4 * n + 4 ≤ N0 ∧ N0 ≤ 2048) (hb : cq_isClock X b) (hm : cq_isModel X (b + 249)) (ho : X.1 (b + 264) = 17) (hn : X.2.1 (b + 264) = 1) (h : ck M b S) (hc : cm M (b + 249) S) (hk : as_ok S B) (hB : B < 10000000) (hcs : cells ≤ 500000 ∧ slots ≤ 6000000) (kk : ∀ (S1 : as_T) (M1 : cq_M), ck M1 b S1 → cm M1 (b + 249) S1 → as_ok S1 (B + 4000) → cq_V p l e room_1 s m args below meth c D cA X Bs 9 (cells + 3) (slots + 20) Q 1702 [(0, .ref b0), (1, .ref b), (2, .ref (b + 249)), (3, .ref (b + 264)), (4, .int (nI (4 * n)))] [] M1) : cq_V p l e room_1 s m args below meth c D cA X Bs 9 cells slots Q 1387 [(0, .ref b0), (1, .ref b), (2, .ref (b + 249)), (3, .ref (b + 264)), (4, .int (nI (4 * n)))] [] M := by
  refine cq_aload_n F (i := 1) dL_law_1387 rfl rfl ?_
  refine w9_cell F hX hbs (n := n) (j := 1) rfl rfl ⟨by omega, by omega⟩ (by decide) dL_law_1388 dL_law_1389 dL_law_1391 dL_law_1392 dL_law_1393 ?_
  refine cq_aload_n F (i := 3) dL_law_1394 rfl rfl ?_
  refine cq_callX F (As := [.ref b, .int (xs (4 * n + 1)), .ref (b + 264)]) (st := []) (kL_outIn l hl D cA X Bs b B S (xs (4 * n + 1)) (b + 264) M hb h hk (by omega) ho hn (.inr (by omega)) (fun _ => ⟨_, (ao_outIn (xs (4 * n + 1)) hk)⟩)) (vx_cwSW 3 F.1.2.2.2.2 gL_law_L_outIn rfl rfl rfl (by decide +kernel) ⟨Nat.le_of_ble_eq_true rfl, Nat.le_of_ble_eq_true rfl⟩) rfl (Nat.le_of_ble_eq_true rfl) dL_law_1395 ⟨by show _ ≤ 601024; omega, by show _ ≤ 7293034; omega⟩ (cq_kI fun r M1 hw => ?_)
  obtain ⟨hr, ha, hck, hfr⟩ := hw
  have hcm : cm M1 (b + 249) S := hc.ext (fun x k1 k2 _ => hfr x (.inr (by omega)) (by omega)) (by rw [hfr _ (.inr (by omega)) (by omega)]) (by rw [hfr _ (.inr (by omega)) (by omega)])
  refine cq_istore F dL_law_1398 (by decide) ?_
  refine cq_aload_n F (i := 2) dL_law_1400 rfl rfl ?_
  refine w9_cell F hX hbs (n := n) (j := 1) rfl rfl ⟨by omega, by omega⟩ (by decide) dL_law_1401 dL_law_1402 dL_law_1404 dL_law_1405 dL_law_1406 ?_
  refine cq_callV F (C := RX7) (ci := 8) (As := [.int (xs (4 * n + 1))]) (st := []) (kX7_outIn l D cA X Bs (b + 249) B S (xs (4 * n + 1)) M1 hm hcm hk (by omega)) (cwV 1 F.1.2.2.2.2 gL_law_X7_outIn rfl rfl rfl hdVX7_outIn ⟨Nat.le_of_ble_eq_true rfl, Nat.le_of_ble_eq_true rfl⟩) hm.kind ⟨by decide, by decide⟩ rfl rfl rfl (Nat.le_of_ble_eq_true rfl) dL_law_1407 ⟨by show _ ≤ 601024; omega, by show _ ≤ 7293034; omega⟩ (cq_kI fun r2 M2 hq => ?_)
  obtain ⟨hth, hr2, hcm2, hfr2⟩ := hq
  refine cq_istore F dL_law_1410 (by decide) ?_
  refine w9_tail F (q := (op_outIn S (xs (4 * n + 1)))) (o := b + 249) (ol := b + 264) (tg := 1702) hm ho hn rfl rfl rfl rfl (by unfold op_outIn; repeat' (first | refine w9_ite ?_ ?_ | exact Nat.le_of_ble_eq_true rfl)) hr (fun z => by rw [hfr2 _ (.inr (by omega))]; exact ha z) hth hr2 dL_law_1412 dL_law_1413 dL_law_1416 dL_law_1418 dL_law_1423 dL_law_1425 dL_law_1428 dL_law_1429 dL_law_1430 dL_law_1431 dL_law_1433 dL_law_1434 dL_law_1435 dL_law_1440 (by decide) ⟨by omega, by omega⟩ ?_
  refine cq_widen (k := cells + 3) (n := slots + 20) (by omega) (by omega) ?_
  refine cq_loc (L2 := [(0, .ref b0), (1, .ref b), (2, .ref (b + 249)), (3, .ref (b + 264)), (4, .int (nI (4 * n)))]) rfl ?_
  exact kk _ M2 (hck.far (ao_outIn (xs (4 * n + 1)) hk) (fun x h1 h2 => hfr2 x (.inl (by omega)))) hcm2 (ao_outIn (xs (4 * n + 1)) hk)
set_option maxRecDepth 100000 in
set_option maxHeartbeats 4000000 in
theorem w9_case_22 (hl : l.stackTraces = false) {b0 N0 n b B : Nat} {S : as_T} {xs : Nat → Int32} (F : cq_F p s m args meth c D cA Bs 9 cL_law RL wsL_law) (hX : va_X b0 N0 xs s s.heap) (hbs : b0 < s.heap.size ∧ b0 < Bs) (hN : 4 * n + 4 ≤ N0 ∧ N0 ≤ 2048) (hb : cq_isClock X b) (hm : cq_isModel X (b + 249)) (ho : X.1 (b + 264) = 17) (hn : X.2.1 (b + 264) = 1) (h : ck M b S) (hc : cm M (b + 249) S) (hk : as_ok S B) (hB : B < 10000000) (hcs : cells ≤ 500000 ∧ slots ≤ 6000000) (kk : ∀ (S1 : as_T) (M1 : cq_M), ck M1 b S1 → cm M1 (b + 249) S1 → as_ok S1 (B + 4000) → cq_V p l e room_1 s m args below meth c D cA X Bs 9 (cells + 3) (slots + 20) Q 1702 [(0, .ref b0), (1, .ref b), (2, .ref (b + 249)), (3, .ref (b + 264)), (4, .int (nI (4 * n)))] [] M1) : cq_V p l e room_1 s m args below meth c D cA X Bs 9 cells slots Q 1443 [(0, .ref b0), (1, .ref b), (2, .ref (b + 249)), (3, .ref (b + 264)), (4, .int (nI (4 * n)))] [] M := by
  refine cq_aload_n F (i := 1) dL_law_1443 rfl rfl ?_
  refine w9_cell F hX hbs (n := n) (j := 1) rfl rfl ⟨by omega, by omega⟩ (by decide) dL_law_1444 dL_law_1445 dL_law_1447 dL_law_1448 dL_law_1449 ?_
  refine w9_cell F hX hbs (n := n) (j := 2) rfl rfl ⟨by omega, by omega⟩ (by decide) dL_law_1450 dL_law_1451 dL_law_1453 dL_law_1454 dL_law_1455 ?_
  refine w9_cell F hX hbs (n := n) (j := 3) rfl rfl ⟨by omega, by omega⟩ (by decide) dL_law_1456 dL_law_1457 dL_law_1459 dL_law_1460 dL_law_1461 ?_
  refine cq_aload_n F (i := 3) dL_law_1462 rfl rfl ?_
  refine cq_callX F (As := [.ref b, .int (xs (4 * n + 1)), .int (xs (4 * n + 2)), .int (xs (4 * n + 3)), .ref (b + 264)]) (st := []) (kL_lasts l hl D cA X Bs b B S (xs (4 * n + 1)) (xs (4 * n + 2)) (xs (4 * n + 3)) (b + 264) M hb h hk ho hn (.inr (by omega)) (fun _ => ⟨_, (ao_lasts (xs (4 * n + 1)) (xs (4 * n + 2)) (xs (4 * n + 3)) hk)⟩)) (vx_cwSW 5 F.1.2.2.2.2 gL_law_L_lasts rfl rfl rfl (by decide +kernel) ⟨Nat.le_of_ble_eq_true rfl, Nat.le_of_ble_eq_true rfl⟩) rfl (Nat.le_of_ble_eq_true rfl) dL_law_1463 ⟨by show _ ≤ 601024; omega, by show _ ≤ 7293034; omega⟩ (cq_kI fun r M1 hw => ?_)
  obtain ⟨hr, ha, hck, hfr⟩ := hw
  have hcm : cm M1 (b + 249) S := hc.ext (fun x k1 k2 _ => hfr x (.inr (by omega)) (by omega)) (by rw [hfr _ (.inr (by omega)) (by omega)]) (by rw [hfr _ (.inr (by omega)) (by omega)])
  refine cq_istore F dL_law_1466 (by decide) ?_
  refine cq_aload_n F (i := 2) dL_law_1468 rfl rfl ?_
  refine w9_cell F hX hbs (n := n) (j := 1) rfl rfl ⟨by omega, by omega⟩ (by decide) dL_law_1469 dL_law_1470 dL_law_1472 dL_law_1473 dL_law_1474 ?_
  refine w9_cell F hX hbs (n := n) (j := 2) rfl rfl ⟨by omega, by omega⟩ (by decide) dL_law_1475 dL_law_1476 dL_law_1478 dL_law_1479 dL_law_1480 ?_
  refine w9_cell F hX hbs (n := n) (j := 3) rfl rfl ⟨by omega, by omega⟩ (by decide) dL_law_1481 dL_law_1482 dL_law_1484 dL_law_1485 dL_law_1486 ?_
  refine cq_callV F (C := RX7) (ci := 8) (As := [.int (xs (4 * n + 1)), .int (xs (4 * n + 2)), .int (xs (4 * n + 3))]) (st := []) (kX7_lasts l D cA X Bs (b + 249) B S (xs (4 * n + 1)) (xs (4 * n + 2)) (xs (4 * n + 3)) M1 hm hcm hk) (cwV 3 F.1.2.2.2.2 gL_law_X7_lasts rfl rfl rfl hdVX7_lasts ⟨Nat.le_of_ble_eq_true rfl, Nat.le_of_ble_eq_true rfl⟩) hm.kind ⟨by decide, by decide⟩ rfl rfl rfl (Nat.le_of_ble_eq_true rfl) dL_law_1487 ⟨by show _ ≤ 601024; omega, by show _ ≤ 7293034; omega⟩ (cq_kI fun r2 M2 hq => ?_)
  obtain ⟨hth, hr2, hcm2, hfr2⟩ := hq
  refine cq_istore F dL_law_1490 (by decide) ?_
  refine w9_tail F (q := (op_lasts S (xs (4 * n + 1)) (xs (4 * n + 2)) (xs (4 * n + 3)))) (o := b + 249) (ol := b + 264) (tg := 1702) hm ho hn rfl rfl rfl rfl (by unfold op_lasts; repeat' (first | refine w9_ite ?_ ?_ | exact Nat.le_of_ble_eq_true rfl)) hr (fun z => by rw [hfr2 _ (.inr (by omega))]; exact ha z) hth hr2 dL_law_1492 dL_law_1493 dL_law_1496 dL_law_1498 dL_law_1503 dL_law_1505 dL_law_1508 dL_law_1509 dL_law_1510 dL_law_1511 dL_law_1513 dL_law_1514 dL_law_1515 dL_law_1520 (by decide) ⟨by omega, by omega⟩ ?_
  refine cq_widen (k := cells + 3) (n := slots + 20) (by omega) (by omega) ?_
  refine cq_loc (L2 := [(0, .ref b0), (1, .ref b), (2, .ref (b + 249)), (3, .ref (b + 264)), (4, .int (nI (4 * n)))]) rfl ?_
  exact kk _ M2 (hck.far (ao_lasts (xs (4 * n + 1)) (xs (4 * n + 2)) (xs (4 * n + 3)) hk) (fun x h1 h2 => hfr2 x (.inl (by omega)))) hcm2 (ao_lasts (xs (4 * n + 1)) (xs (4 * n + 2)) (xs (4 * n + 3)) hk)
set_option maxRecDepth 100000 in
set_option maxHeartbeats 4000000 in
theorem w9_case_23 (hl : l.stackTraces = false) {b0 N0 n b B : Nat} {S : as_T} {xs : Nat → Int32} (F : cq_F p s m args meth c D cA Bs 9 cL_law RL wsL_law) (hX : va_X b0 N0 xs s s.heap) (hbs : b0 < s.heap.size ∧ b0 < Bs) (hN : 4 * n + 4 ≤ N0 ∧ N0 ≤ 2048) (hb : cq_isClock X b) (hm : cq_isModel X (b + 249)) (ho : X.1 (b + 264) = 17) (hn : X.2.1 (b + 264) = 1) (h : ck M b S) (hc : cm M (b + 249) S) (hk : as_ok S B) (hB : B < 10000000) (hcs : cells ≤ 500000 ∧ slots ≤ 6000000) (kk : ∀ (S1 : as_T) (M1 : cq_M), ck M1 b S1 → cm M1 (b + 249) S1 → as_ok S1 (B + 4000) → cq_V p l e room_1 s m args below meth c D cA X Bs 9 (cells + 3) (slots + 20) Q 1702 [(0, .ref b0), (1, .ref b), (2, .ref (b + 249)), (3, .ref (b + 264)), (4, .int (nI (4 * n)))] [] M1) : cq_V p l e room_1 s m args below meth c D cA X Bs 9 cells slots Q 1523 [(0, .ref b0), (1, .ref b), (2, .ref (b + 249)), (3, .ref (b + 264)), (4, .int (nI (4 * n)))] [] M := by
  refine cq_aload_n F (i := 1) dL_law_1523 rfl rfl ?_
  refine w9_cell F hX hbs (n := n) (j := 1) rfl rfl ⟨by omega, by omega⟩ (by decide) dL_law_1524 dL_law_1525 dL_law_1527 dL_law_1528 dL_law_1529 ?_
  refine w9_cell F hX hbs (n := n) (j := 2) rfl rfl ⟨by omega, by omega⟩ (by decide) dL_law_1530 dL_law_1531 dL_law_1533 dL_law_1534 dL_law_1535 ?_
  refine cq_aload_n F (i := 3) dL_law_1536 rfl rfl ?_
  refine cq_callX F (As := [.ref b, .int (xs (4 * n + 1)), .int (xs (4 * n + 2)), .ref (b + 264)]) (st := []) (kL_tellable l hl D cA X Bs b B S (xs (4 * n + 1)) (xs (4 * n + 2)) (b + 264) M hb h hk ho hn (.inr (by omega)) (fun _ => ⟨_, (ao_tell (xs (4 * n + 1)) (xs (4 * n + 2)) hk)⟩)) (vx_cwSW 4 F.1.2.2.2.2 gL_law_L_tellable rfl rfl rfl (by decide +kernel) ⟨Nat.le_of_ble_eq_true rfl, Nat.le_of_ble_eq_true rfl⟩) rfl (Nat.le_of_ble_eq_true rfl) dL_law_1537 ⟨by show _ ≤ 601024; omega, by show _ ≤ 7293034; omega⟩ (cq_kI fun r M1 hw => ?_)
  obtain ⟨hr, ha, hck, hfr⟩ := hw
  have hcm : cm M1 (b + 249) S := hc.ext (fun x k1 k2 _ => hfr x (.inr (by omega)) (by omega)) (by rw [hfr _ (.inr (by omega)) (by omega)]) (by rw [hfr _ (.inr (by omega)) (by omega)])
  refine cq_istore F dL_law_1540 (by decide) ?_
  refine cq_aload_n F (i := 2) dL_law_1542 rfl rfl ?_
  refine w9_cell F hX hbs (n := n) (j := 1) rfl rfl ⟨by omega, by omega⟩ (by decide) dL_law_1543 dL_law_1544 dL_law_1546 dL_law_1547 dL_law_1548 ?_
  refine w9_cell F hX hbs (n := n) (j := 2) rfl rfl ⟨by omega, by omega⟩ (by decide) dL_law_1549 dL_law_1550 dL_law_1552 dL_law_1553 dL_law_1554 ?_
  refine cq_callV F (C := RX7) (ci := 8) (As := [.int (xs (4 * n + 1)), .int (xs (4 * n + 2))]) (st := []) (kX7_tellable l D cA X Bs (b + 249) B S (xs (4 * n + 1)) (xs (4 * n + 2)) M1 hm hcm hk) (cwV 2 F.1.2.2.2.2 gL_law_X7_tellable rfl rfl rfl hdVX7_tellable ⟨Nat.le_of_ble_eq_true rfl, Nat.le_of_ble_eq_true rfl⟩) hm.kind ⟨by decide, by decide⟩ rfl rfl rfl (Nat.le_of_ble_eq_true rfl) dL_law_1555 ⟨by show _ ≤ 601024; omega, by show _ ≤ 7293034; omega⟩ (cq_kI fun r2 M2 hq => ?_)
  obtain ⟨hth, hr2, hcm2, hfr2⟩ := hq
  refine cq_istore F dL_law_1558 (by decide) ?_
  refine w9_tail F (q := (op_tell S (xs (4 * n + 1)) (xs (4 * n + 2)))) (o := b + 249) (ol := b + 264) (tg := 1702) hm ho hn rfl rfl rfl rfl (by unfold op_tell; repeat' (first | refine w9_ite ?_ ?_ | exact Nat.le_of_ble_eq_true rfl)) hr (fun z => by rw [hfr2 _ (.inr (by omega))]; exact ha z) hth hr2 dL_law_1560 dL_law_1561 dL_law_1564 dL_law_1566 dL_law_1571 dL_law_1573 dL_law_1576 dL_law_1577 dL_law_1578 dL_law_1579 dL_law_1581 dL_law_1582 dL_law_1583 dL_law_1588 (by decide) ⟨by omega, by omega⟩ ?_
  refine cq_widen (k := cells + 3) (n := slots + 20) (by omega) (by omega) ?_
  refine cq_loc (L2 := [(0, .ref b0), (1, .ref b), (2, .ref (b + 249)), (3, .ref (b + 264)), (4, .int (nI (4 * n)))]) rfl ?_
  exact kk _ M2 (hck.far (ao_tell (xs (4 * n + 1)) (xs (4 * n + 2)) hk) (fun x h1 h2 => hfr2 x (.inl (by omega)))) hcm2 (ao_tell (xs (4 * n + 1)) (xs (4 * n + 2)) hk)
set_option maxRecDepth 100000 in
set_option maxHeartbeats 4000000 in
theorem w9_case_24 (hl : l.stackTraces = false) {b0 N0 n b B : Nat} {S : as_T} {xs : Nat → Int32} (F : cq_F p s m args meth c D cA Bs 9 cL_law RL wsL_law) (hX : va_X b0 N0 xs s s.heap) (hbs : b0 < s.heap.size ∧ b0 < Bs) (hN : 4 * n + 4 ≤ N0 ∧ N0 ≤ 2048) (hb : cq_isClock X b) (hm : cq_isModel X (b + 249)) (ho : X.1 (b + 264) = 17) (hn : X.2.1 (b + 264) = 1) (h : ck M b S) (hc : cm M (b + 249) S) (hk : as_ok S B) (hB : B < 10000000) (hcs : cells ≤ 500000 ∧ slots ≤ 6000000) (kk : ∀ (S1 : as_T) (M1 : cq_M), ck M1 b S1 → cm M1 (b + 249) S1 → as_ok S1 (B + 4000) → cq_V p l e room_1 s m args below meth c D cA X Bs 9 (cells + 3) (slots + 20) Q 1702 [(0, .ref b0), (1, .ref b), (2, .ref (b + 249)), (3, .ref (b + 264)), (4, .int (nI (4 * n)))] [] M1) : cq_V p l e room_1 s m args below meth c D cA X Bs 9 cells slots Q 1591 [(0, .ref b0), (1, .ref b), (2, .ref (b + 249)), (3, .ref (b + 264)), (4, .int (nI (4 * n)))] [] M := by
  refine cq_aload_n F (i := 1) dL_law_1591 rfl rfl ?_
  refine w9_cell F hX hbs (n := n) (j := 1) rfl rfl ⟨by omega, by omega⟩ (by decide) dL_law_1592 dL_law_1593 dL_law_1595 dL_law_1596 dL_law_1597 ?_
  refine w9_cell F hX hbs (n := n) (j := 2) rfl rfl ⟨by omega, by omega⟩ (by decide) dL_law_1598 dL_law_1599 dL_law_1601 dL_law_1602 dL_law_1603 ?_
  refine cq_aload_n F (i := 3) dL_law_1604 rfl rfl ?_
  refine cq_callX F (As := [.ref b, .int (xs (4 * n + 1)), .int (xs (4 * n + 2)), .ref (b + 264)]) (st := []) (kL_fewestFlames l hl D cA X Bs b B S (xs (4 * n + 1)) (xs (4 * n + 2)) (b + 264) M hb h hk ho hn (.inr (by omega)) (fun _ => ⟨_, (ao_few (xs (4 * n + 1)) (xs (4 * n + 2)) hk)⟩)) (vx_cwSW 4 F.1.2.2.2.2 gL_law_L_fewestFlames rfl rfl rfl (by decide +kernel) ⟨Nat.le_of_ble_eq_true rfl, Nat.le_of_ble_eq_true rfl⟩) rfl (Nat.le_of_ble_eq_true rfl) dL_law_1605 ⟨by show _ ≤ 601024; omega, by show _ ≤ 7293034; omega⟩ (cq_kI fun r M1 hw => ?_)
  obtain ⟨hr, ha, hck, hfr⟩ := hw
  have hcm : cm M1 (b + 249) S := hc.ext (fun x k1 k2 _ => hfr x (.inr (by omega)) (by omega)) (by rw [hfr _ (.inr (by omega)) (by omega)]) (by rw [hfr _ (.inr (by omega)) (by omega)])
  refine cq_istore F dL_law_1608 (by decide) ?_
  refine cq_aload_n F (i := 2) dL_law_1610 rfl rfl ?_
  refine w9_cell F hX hbs (n := n) (j := 1) rfl rfl ⟨by omega, by omega⟩ (by decide) dL_law_1611 dL_law_1612 dL_law_1614 dL_law_1615 dL_law_1616 ?_
  refine w9_cell F hX hbs (n := n) (j := 2) rfl rfl ⟨by omega, by omega⟩ (by decide) dL_law_1617 dL_law_1618 dL_law_1620 dL_law_1621 dL_law_1622 ?_
  refine cq_callV F (C := RX7) (ci := 8) (As := [.int (xs (4 * n + 1)), .int (xs (4 * n + 2))]) (st := []) (kX7_fewestFlames l D cA X Bs (b + 249) B S (xs (4 * n + 1)) (xs (4 * n + 2)) M1 hm hcm hk) (cwV 2 F.1.2.2.2.2 gL_law_X7_fewestFlames rfl rfl rfl hdVX7_fewestFlames ⟨Nat.le_of_ble_eq_true rfl, Nat.le_of_ble_eq_true rfl⟩) hm.kind ⟨by decide, by decide⟩ rfl rfl rfl (Nat.le_of_ble_eq_true rfl) dL_law_1623 ⟨by show _ ≤ 601024; omega, by show _ ≤ 7293034; omega⟩ (cq_kI fun r2 M2 hq => ?_)
  obtain ⟨hth, hr2, hcm2, hfr2⟩ := hq
  refine cq_istore F dL_law_1626 (by decide) ?_
  refine w9_tail F (q := (op_few S (xs (4 * n + 1)) (xs (4 * n + 2)))) (o := b + 249) (ol := b + 264) (tg := 1702) hm ho hn rfl rfl rfl rfl (by unfold op_few; repeat' (first | refine w9_ite ?_ ?_ | exact Nat.le_of_ble_eq_true rfl)) hr (fun z => by rw [hfr2 _ (.inr (by omega))]; exact ha z) hth hr2 dL_law_1628 dL_law_1629 dL_law_1632 dL_law_1634 dL_law_1639 dL_law_1641 dL_law_1644 dL_law_1645 dL_law_1646 dL_law_1647 dL_law_1649 dL_law_1650 dL_law_1651 dL_law_1656 (by decide) ⟨by omega, by omega⟩ ?_
  refine cq_widen (k := cells + 3) (n := slots + 20) (by omega) (by omega) ?_
  refine cq_loc (L2 := [(0, .ref b0), (1, .ref b), (2, .ref (b + 249)), (3, .ref (b + 264)), (4, .int (nI (4 * n)))]) rfl ?_
  exact kk _ M2 (hck.far (ao_few (xs (4 * n + 1)) (xs (4 * n + 2)) hk) (fun x h1 h2 => hfr2 x (.inl (by omega)))) hcm2 (ao_few (xs (4 * n + 1)) (xs (4 * n + 2)) hk)
end CQY
