/-! THE CASES OF THE LAW'S BODY: one call each, of the class and of the reference; the same answer; then the next round. -/
theorem nI_4 {t : Nat} (h : t < 4) (h0 : ¬ t = 0) : ¬ nI t = 0 := by
  match t, h, h0 with
  | 0, _, h => exact absurd rfl h
  | 1, _, _ => decide
  | 2, _, _ => decide
  | 3, _, _ => decide
theorem vf_us {f : Nat → UInt64} {k : Nat} {x : UInt64} : vf_upd f k x k = x := if_pos rfl
theorem ath_c {n : Nat → Nat} {x : Int32} (h0 : cd_ath n x = 0) : ci x < n 0 := by
  unfold cd_ath at h0
  by_cases h : ix x (n 0)
  · obtain ⟨a, ha, rfl⟩ := h
    show (nI a).toNatClampNeg < n 0
    by_cases hb : a < 2 ^ 31
    · rw [nI_clamp hb]; exact ha
    · exact Nat.lt_of_lt_of_le (Int32.toNatClampNeg_lt _) (by omega)
  · rw [cif_f h] at h0; cases h0
theorem mean_c {S : St} {n : Nat → Nat} {x : Int32} (hI : Inv S n) (h0 : cd_ath n x = 0) : Op.cmpValue (FP.dcmp (vl_mean S (ci x)) (vl_mean S (ci x))) .l = 0 := by
  obtain ⟨-, -, -, -, -, -, -, -, -, -, -, -, -, -, hME, -, -, -⟩ := hI
  exact mean_cmp (fun y hy => (hME _ y (ath_c h0) hy).1)
section LB0
variable {p : Program} {l : Launch} {e : Env} {R : Room} {s : State} {m : MethodId} {args : Array Value} {below : List Frame} {meth : Method} {c : Code} {H : Heap} {locs : List Loc} {cells slots : Nat} {Q : State → Prop} {pc : Nat} {ls : Array Slot} {rest : List Value}
theorem bl_0 {x y : Int64} (h : x = y) (k : W p l e R s m args below meth c H locs cells slots Q (F0 m pc ls (.long x :: rest))) : W p l e R s m args below meth c H locs cells slots Q (F0 m pc ls (.long y :: rest)) := h ▸ k
theorem bl_1 {v : Value} {x y : Int64} (h : x = y) (k : W p l e R s m args below meth c H locs cells slots Q (F0 m pc ls (v :: .long x :: rest))) : W p l e R s m args below meth c H locs cells slots Q (F0 m pc ls (v :: .long y :: rest)) := h ▸ k
theorem bd_0 {x y : UInt64} (h : x = y) (k : W p l e R s m args below meth c H locs cells slots Q (F0 m pc ls (.double x :: rest))) : W p l e R s m args below meth c H locs cells slots Q (F0 m pc ls (.double y :: rest)) := h ▸ k
end LB0
set_option maxHeartbeats 4000000 in
set_option maxRecDepth 100000 in
theorem q_athlete {p : Program} {l : Launch} {e : Env} {s : State} {m : MethodId} {args : Array Value} {below : List Frame} {meth : Method} {c : Code} {H : Heap} {locs : List Loc} {cells slots : Nat} {Q : State → Prop} {ls : Array Slot} {D : va_G} {cy : Nat → ClassId} {sa : Nat → Nat} {de B : Nat} {ad : Ad} {S : St} {n : Nat → Nat} {th : Int32} {f : Nat → Int64} {g9 : Nat → UInt64} {b L : Nat} {xs : Nat → Int32} {j : Nat} (hfl : l.stackTraces = false) (hC : Cx p m c cL_law 9 s args RL D cy sa de B) (hS : va_S (AB B) s.heap H locs) (hX : va_X b L xs s s.heap) (hbl : b < s.heap.size) (hbA : ¬ AB B b) (hL : L ≤ 2560) (hi : 5 * j + 4 < L) (hl : lo ls 9 (LW b ad (nI (5 * j)) none none none)) (hG : GW D B ad (Vw cy de ad S n S n th (Xl cy f g9)) H) (hI : Inv S n) (hroom : cells + 9 ≤ 601024 ∧ slots + 56 ≤ 7293034) (k0 : cd_athlete n (xs (5 * j + 1)) = 0 → ∀ (ad9 : Ad) (f2 : Nat → Int64) (g2 : Nat → UInt64) (H1 : Heap) (locs1 : List Loc) (ls1 : Array Slot), GW D B ad9 (Vw cy de ad9 (atS S (n 0) (xs (5 * j + 1))) (nUp n 0) (atS S (n 0) (xs (5 * j + 1))) (nUp n 0) 0 (Xl cy f2 g2)) H1 → va_S (AB B) s.heap H1 locs1 → lo ls1 9 (LW b ad9 (nI (5 * j)) none none none) → W p l e room_1 s m args below meth c H1 locs1 (cells + 9) (slots + 56) Q (F0 m 2593 ls1 [])) (k1 : ∀ (th9 : Int32) (H1 : Heap) (locs1 : List Loc) (ls1 : Array Slot), GW D B ad (Vw cy de ad S n S n th9 (Xl cy f g9)) H1 → va_S (AB B) s.heap H1 locs1 → lo ls1 9 (LW b ad (nI (5 * j)) none none none) → W p l e room_1 s m args below meth c H1 locs1 (cells + 9) (slots + 56) Q (F0 m 2593 ls1 [])) : W p l e room_1 s m args below meth c H locs cells slots Q (F0 m 212 ls []) := by
  have hx := hC.x
  have hb := hC.b
  refine o_aload_n hx hb dL_law_212 hl rfl ?_
  refine g_arg hC hS hX hbl hbA hL hi (q := 1) (by decide) hl rfl rfl (z := 1) rfl dL_law_213 dL_law_214 dL_law_216 dL_law_217 dL_law_218 ?_
  refine o_aload_n hx hb dL_law_219 hl rfl ?_
  refine k_L_athlete hfl hC hS hG hI ml_L_138 ⟨(Nat.le_of_ble_eq_true rfl), (Nat.le_of_ble_eq_true rfl)⟩ hl.1 (Nat.le_of_ble_eq_true rfl) dL_law_220 ⟨show cells + 9 ≤ 601024 by omega, show slots + 56 ≤ 7293034 by omega⟩ (fun h0 ad9 H locs hA hG hS => ?_) (fun t9 ht4 ht0 h1 H locs hG hS => ?_)
  · have hl := LW_ag hA hl
    refine o_istore hx hb dL_law_223 hl (by decide) rfl (fun ls hl => ?_)
    refine o_aload_n hx hb dL_law_225 hl rfl ?_
    refine g_arg hC hS hX hbl hbA hL hi (q := 1) (by decide) hl rfl rfl (z := 1) rfl dL_law_226 dL_law_227 dL_law_229 dL_law_230 dL_law_231 ?_
    refine k_X7_athlete hC hS hG hI ml_L_143 ⟨(Nat.le_of_ble_eq_true rfl), (Nat.le_of_ble_eq_true rfl)⟩ hl.1 (Nat.le_of_ble_eq_true rfl) dL_law_232 ⟨show cells + 9 + 0 ≤ 601024 by omega, show slots + 56 + 0 ≤ 7293034 by omega⟩ (fun _ H locs hG hS => ?_) (fun _ t8 h8 h9 => absurd (h8.symm.trans h0) h9)
    refine o_istore hx hb dL_law_235 hl (by decide) rfl (fun ls hl => ?_)
    refine o_aload_n hx hb dL_law_237 hl rfl ?_
    refine k_X7_thrown hC hS hG trivial ml_L_144 ⟨(Nat.le_of_ble_eq_true rfl), (Nat.le_of_ble_eq_true rfl)⟩ hl.1 (Nat.le_of_ble_eq_true rfl) dL_law_238 ⟨show cells + 9 + 0 + 0 ≤ 601024 by omega, show slots + 56 + 0 + 0 ≤ 7293034 by omega⟩ ?_
    refine o_iload hx hb dL_law_241 hl rfl ?_
    refine lv_icmp_eq (tgt := 248) hx hb dL_law_243 (by decide) (fun _ => ?_) (fun h => absurd rfl h)
    refine o_iload hx hb dL_law_248 hl rfl ?_
    refine lv_if_ne (tgt := 265) hx hb dL_law_250 (by decide) (fun h => absurd rfl h) (fun _ => ?_)
    refine o_aload_n hx hb dL_law_253 hl rfl ?_
    refine lv_iconst (v := 0) hx hb dL_law_254 (by decide) ?_
    refine g_lald hC hG V_out 0 rfl (by decide) (by decide) dL_law_255 ?_
    refine bl_0 (x := (Int32.toInt64 (nI (n 0)))) pk_uLs.symm ?_
    refine o_iload hx hb dL_law_256 hl rfl ?_
    refine lv_i2l hx hb dL_law_258 rfl ?_
    refine lv_lcmpE hx hb dL_law_259 ?_
    refine lv_if_eq (tgt := 265) hx hb dL_law_260 (by decide) (fun _ => ?_) (fun h => absurd rfl h)
    refine lv_goto (tgt := 2593) hx hb dL_law_265 (by decide) ?_
    refine W.widen (k := cells + 9) (n := slots + 56) (by omega) (by omega) ?_
    exact k0 h0 ad9 _ _ _ _ _ hG hS (LW_no hl)
  · have ht9 := nI_4 ht4 ht0
    refine o_istore hx hb dL_law_223 hl (by decide) rfl (fun ls hl => ?_)
    refine o_aload_n hx hb dL_law_225 hl rfl ?_
    refine g_arg hC hS hX hbl hbA hL hi (q := 1) (by decide) hl rfl rfl (z := 1) rfl dL_law_226 dL_law_227 dL_law_229 dL_law_230 dL_law_231 ?_
    refine k_X7_athlete hC hS hG hI ml_L_143 ⟨(Nat.le_of_ble_eq_true rfl), (Nat.le_of_ble_eq_true rfl)⟩ hl.1 (Nat.le_of_ble_eq_true rfl) dL_law_232 ⟨show cells + 9 + 0 ≤ 601024 by omega, show slots + 56 + 0 ≤ 7293034 by omega⟩ (fun h8 => absurd (h1.symm.trans h8) ht0) (fun r9 t8 h8 h9 H locs hG hS => ?_)
    obtain rfl : t8 = t9 := h8.symm.trans h1
    refine o_istore hx hb dL_law_235 hl (by decide) rfl (fun ls hl => ?_)
    refine o_aload_n hx hb dL_law_237 hl rfl ?_
    refine k_X7_thrown hC hS hG trivial ml_L_144 ⟨(Nat.le_of_ble_eq_true rfl), (Nat.le_of_ble_eq_true rfl)⟩ hl.1 (Nat.le_of_ble_eq_true rfl) dL_law_238 ⟨show cells + 9 + 0 + 0 ≤ 601024 by omega, show slots + 56 + 0 + 0 ≤ 7293034 by omega⟩ ?_
    refine o_iload hx hb dL_law_241 hl rfl ?_
    refine lv_icmp_eq (tgt := 248) hx hb dL_law_243 (by decide) (fun _ => ?_) (fun h => absurd rfl h)
    refine o_iload hx hb dL_law_248 hl rfl ?_
    refine lv_if_ne (tgt := 265) hx hb dL_law_250 (by decide) (fun _ => ?_) (fun h => absurd h ht9)
    refine lv_goto (tgt := 2593) hx hb dL_law_265 (by decide) ?_
    refine W.widen (k := cells + 9) (n := slots + 56) (by omega) (by omega) ?_
    exact k1 _ _ _ _ hG hS (LW_no hl)
set_option maxHeartbeats 4000000 in
set_option maxRecDepth 100000 in
theorem q_body {p : Program} {l : Launch} {e : Env} {s : State} {m : MethodId} {args : Array Value} {below : List Frame} {meth : Method} {c : Code} {H : Heap} {locs : List Loc} {cells slots : Nat} {Q : State → Prop} {ls : Array Slot} {D : va_G} {cy : Nat → ClassId} {sa : Nat → Nat} {de B : Nat} {ad : Ad} {S : St} {n : Nat → Nat} {th : Int32} {f : Nat → Int64} {g9 : Nat → UInt64} {b L : Nat} {xs : Nat → Int32} {j : Nat} (hfl : l.stackTraces = false) (hC : Cx p m c cL_law 9 s args RL D cy sa de B) (hS : va_S (AB B) s.heap H locs) (hX : va_X b L xs s s.heap) (hbl : b < s.heap.size) (hbA : ¬ AB B b) (hL : L ≤ 2560) (hi : 5 * j + 4 < L) (hl : lo ls 9 (LW b ad (nI (5 * j)) none none none)) (hG : GW D B ad (Vw cy de ad S n S n th (Xl cy f g9)) H) (hI : Inv S n) (hroom : cells + 9 ≤ 601024 ∧ slots + 56 ≤ 7293034) (k0 : cd_body n (xs (5 * j + 1)) (xs (5 * j + 2)) (xs (5 * j + 3)) = 0 → ∀ (ad9 : Ad) (f2 : Nat → Int64) (g2 : Nat → UInt64) (H1 : Heap) (locs1 : List Loc) (ls1 : Array Slot), GW D B ad9 (Vw cy de ad9 (up_body S (xs (5 * j + 1)) (xs (5 * j + 2)) (xs (5 * j + 3))) n (up_body S (xs (5 * j + 1)) (xs (5 * j + 2)) (xs (5 * j + 3))) n 0 (Xl cy f2 g2)) H1 → va_S (AB B) s.heap H1 locs1 → lo ls1 9 (LW b ad9 (nI (5 * j)) none none none) → W p l e room_1 s m args below meth c H1 locs1 (cells + 9) (slots + 56) Q (F0 m 2593 ls1 [])) (k1 : ∀ (th9 : Int32) (H1 : Heap) (locs1 : List Loc) (ls1 : Array Slot), GW D B ad (Vw cy de ad S n S n th9 (Xl cy f g9)) H1 → va_S (AB B) s.heap H1 locs1 → lo ls1 9 (LW b ad (nI (5 * j)) none none none) → W p l e room_1 s m args below meth c H1 locs1 (cells + 9) (slots + 56) Q (F0 m 2593 ls1 [])) : W p l e room_1 s m args below meth c H locs cells slots Q (F0 m 268 ls []) := by
  have hx := hC.x
  have hb := hC.b
  refine o_aload_n hx hb dL_law_268 hl rfl ?_
  refine g_arg hC hS hX hbl hbA hL hi (q := 1) (by decide) hl rfl rfl (z := 1) rfl dL_law_269 dL_law_270 dL_law_272 dL_law_273 dL_law_274 ?_
  refine g_arg hC hS hX hbl hbA hL hi (q := 2) (by decide) hl rfl rfl (z := 2) rfl dL_law_275 dL_law_276 dL_law_278 dL_law_279 dL_law_280 ?_
  refine g_arg hC hS hX hbl hbA hL hi (q := 3) (by decide) hl rfl rfl (z := 3) rfl dL_law_281 dL_law_282 dL_law_284 dL_law_285 dL_law_286 ?_
  refine o_aload_n hx hb dL_law_287 hl rfl ?_
  refine k_L_body hfl hC hS hG hI ml_L_147 ⟨(Nat.le_of_ble_eq_true rfl), (Nat.le_of_ble_eq_true rfl)⟩ hl.1 (Nat.le_of_ble_eq_true rfl) dL_law_288 ⟨show cells + 3 ≤ 601024 by omega, show slots + 18 ≤ 7293034 by omega⟩ (fun h0 ad9 H locs hA hG hS => ?_) (fun t9 ht4 ht0 h1 H locs hG hS => ?_)
  · have hl := LW_ag hA hl
    refine o_istore hx hb dL_law_291 hl (by decide) rfl (fun ls hl => ?_)
    refine o_aload_n hx hb dL_law_293 hl rfl ?_
    refine g_arg hC hS hX hbl hbA hL hi (q := 1) (by decide) hl rfl rfl (z := 1) rfl dL_law_294 dL_law_295 dL_law_297 dL_law_298 dL_law_299 ?_
    refine g_arg hC hS hX hbl hbA hL hi (q := 2) (by decide) hl rfl rfl (z := 2) rfl dL_law_300 dL_law_301 dL_law_303 dL_law_304 dL_law_305 ?_
    refine g_arg hC hS hX hbl hbA hL hi (q := 3) (by decide) hl rfl rfl (z := 3) rfl dL_law_306 dL_law_307 dL_law_309 dL_law_310 dL_law_311 ?_
    refine k_X7_body hC hS hG hI ml_L_150 ⟨(Nat.le_of_ble_eq_true rfl), (Nat.le_of_ble_eq_true rfl)⟩ hl.1 (Nat.le_of_ble_eq_true rfl) dL_law_312 ⟨show cells + 3 + 0 ≤ 601024 by omega, show slots + 18 + 0 ≤ 7293034 by omega⟩ (fun _ H locs hG hS => ?_) (fun _ t8 h8 h9 => absurd (h8.symm.trans h0) h9)
    refine o_istore hx hb dL_law_315 hl (by decide) rfl (fun ls hl => ?_)
    refine o_aload_n hx hb dL_law_317 hl rfl ?_
    refine k_X7_thrown hC hS hG trivial ml_L_144 ⟨(Nat.le_of_ble_eq_true rfl), (Nat.le_of_ble_eq_true rfl)⟩ hl.1 (Nat.le_of_ble_eq_true rfl) dL_law_318 ⟨show cells + 3 + 0 + 0 ≤ 601024 by omega, show slots + 18 + 0 + 0 ≤ 7293034 by omega⟩ ?_
    refine o_iload hx hb dL_law_321 hl rfl ?_
    refine lv_icmp_eq (tgt := 328) hx hb dL_law_323 (by decide) (fun _ => ?_) (fun h => absurd rfl h)
    refine o_iload hx hb dL_law_328 hl rfl ?_
    refine lv_if_ne (tgt := 345) hx hb dL_law_330 (by decide) (fun h => absurd rfl h) (fun _ => ?_)
    refine o_aload_n hx hb dL_law_333 hl rfl ?_
    refine lv_iconst (v := 0) hx hb dL_law_334 (by decide) ?_
    refine g_lald hC hG V_out 0 rfl (by decide) (by decide) dL_law_335 ?_
    refine bl_0 (x := (Int32.toInt64 (S 6 (ci (xs (5 * j + 1))) (ci (xs (5 * j + 2)))))) pk_uLs.symm ?_
    refine o_iload hx hb dL_law_336 hl rfl ?_
    refine lv_i2l hx hb dL_law_338 rfl ?_
    refine lv_lcmpE hx hb dL_law_339 ?_
    refine lv_if_eq (tgt := 345) hx hb dL_law_340 (by decide) (fun _ => ?_) (fun h => absurd rfl h)
    refine lv_goto (tgt := 2593) hx hb dL_law_345 (by decide) ?_
    refine W.widen (k := cells + 9) (n := slots + 56) (by omega) (by omega) ?_
    exact k0 h0 ad9 _ _ _ _ _ hG hS (LW_no hl)
  · have ht9 := nI_4 ht4 ht0
    refine o_istore hx hb dL_law_291 hl (by decide) rfl (fun ls hl => ?_)
    refine o_aload_n hx hb dL_law_293 hl rfl ?_
    refine g_arg hC hS hX hbl hbA hL hi (q := 1) (by decide) hl rfl rfl (z := 1) rfl dL_law_294 dL_law_295 dL_law_297 dL_law_298 dL_law_299 ?_
    refine g_arg hC hS hX hbl hbA hL hi (q := 2) (by decide) hl rfl rfl (z := 2) rfl dL_law_300 dL_law_301 dL_law_303 dL_law_304 dL_law_305 ?_
    refine g_arg hC hS hX hbl hbA hL hi (q := 3) (by decide) hl rfl rfl (z := 3) rfl dL_law_306 dL_law_307 dL_law_309 dL_law_310 dL_law_311 ?_
    refine k_X7_body hC hS hG hI ml_L_150 ⟨(Nat.le_of_ble_eq_true rfl), (Nat.le_of_ble_eq_true rfl)⟩ hl.1 (Nat.le_of_ble_eq_true rfl) dL_law_312 ⟨show cells + 3 + 0 ≤ 601024 by omega, show slots + 18 + 0 ≤ 7293034 by omega⟩ (fun h8 => absurd (h1.symm.trans h8) ht0) (fun r9 t8 h8 h9 H locs hG hS => ?_)
    obtain rfl : t8 = t9 := h8.symm.trans h1
    refine o_istore hx hb dL_law_315 hl (by decide) rfl (fun ls hl => ?_)
    refine o_aload_n hx hb dL_law_317 hl rfl ?_
    refine k_X7_thrown hC hS hG trivial ml_L_144 ⟨(Nat.le_of_ble_eq_true rfl), (Nat.le_of_ble_eq_true rfl)⟩ hl.1 (Nat.le_of_ble_eq_true rfl) dL_law_318 ⟨show cells + 3 + 0 + 0 ≤ 601024 by omega, show slots + 18 + 0 + 0 ≤ 7293034 by omega⟩ ?_
    refine o_iload hx hb dL_law_321 hl rfl ?_
    refine lv_icmp_eq (tgt := 328) hx hb dL_law_323 (by decide) (fun _ => ?_) (fun h => absurd rfl h)
    refine o_iload hx hb dL_law_328 hl rfl ?_
    refine lv_if_ne (tgt := 345) hx hb dL_law_330 (by decide) (fun _ => ?_) (fun h => absurd h ht9)
    refine lv_goto (tgt := 2593) hx hb dL_law_345 (by decide) ?_
    refine W.widen (k := cells + 9) (n := slots + 56) (by omega) (by omega) ?_
    exact k1 _ _ _ _ hG hS (LW_no hl)
set_option maxHeartbeats 4000000 in
set_option maxRecDepth 100000 in
theorem q_show {p : Program} {l : Launch} {e : Env} {s : State} {m : MethodId} {args : Array Value} {below : List Frame} {meth : Method} {c : Code} {H : Heap} {locs : List Loc} {cells slots : Nat} {Q : State → Prop} {ls : Array Slot} {D : va_G} {cy : Nat → ClassId} {sa : Nat → Nat} {de B : Nat} {ad : Ad} {S : St} {n : Nat → Nat} {th : Int32} {f : Nat → Int64} {g9 : Nat → UInt64} {b L : Nat} {xs : Nat → Int32} {j : Nat} (hfl : l.stackTraces = false) (hC : Cx p m c cL_law 9 s args RL D cy sa de B) (hS : va_S (AB B) s.heap H locs) (hX : va_X b L xs s s.heap) (hbl : b < s.heap.size) (hbA : ¬ AB B b) (hL : L ≤ 2560) (hi : 5 * j + 4 < L) (hl : lo ls 9 (LW b ad (nI (5 * j)) none none none)) (hG : GW D B ad (Vw cy de ad S n S n th (Xl cy f g9)) H) (hI : Inv S n) (hroom : cells + 9 ≤ 601024 ∧ slots + 56 ≤ 7293034) (k0 : cd_show n (xs (5 * j + 1)) (xs (5 * j + 2)) (xs (5 * j + 3)) = 0 → ∀ (ad9 : Ad) (f2 : Nat → Int64) (g2 : Nat → UInt64) (H1 : Heap) (locs1 : List Loc) (ls1 : Array Slot), GW D B ad9 (Vw cy de ad9 (up_show S (xs (5 * j + 1)) (xs (5 * j + 2)) (xs (5 * j + 3))) n (up_show S (xs (5 * j + 1)) (xs (5 * j + 2)) (xs (5 * j + 3))) n 0 (Xl cy f2 g2)) H1 → va_S (AB B) s.heap H1 locs1 → lo ls1 9 (LW b ad9 (nI (5 * j)) none none none) → W p l e room_1 s m args below meth c H1 locs1 (cells + 9) (slots + 56) Q (F0 m 2593 ls1 [])) (k1 : ∀ (th9 : Int32) (H1 : Heap) (locs1 : List Loc) (ls1 : Array Slot), GW D B ad (Vw cy de ad S n S n th9 (Xl cy f g9)) H1 → va_S (AB B) s.heap H1 locs1 → lo ls1 9 (LW b ad (nI (5 * j)) none none none) → W p l e room_1 s m args below meth c H1 locs1 (cells + 9) (slots + 56) Q (F0 m 2593 ls1 [])) : W p l e room_1 s m args below meth c H locs cells slots Q (F0 m 348 ls []) := by
  have hx := hC.x
  have hb := hC.b
  refine o_aload_n hx hb dL_law_348 hl rfl ?_
  refine g_arg hC hS hX hbl hbA hL hi (q := 1) (by decide) hl rfl rfl (z := 1) rfl dL_law_349 dL_law_350 dL_law_352 dL_law_353 dL_law_354 ?_
  refine g_arg hC hS hX hbl hbA hL hi (q := 2) (by decide) hl rfl rfl (z := 2) rfl dL_law_355 dL_law_356 dL_law_358 dL_law_359 dL_law_360 ?_
  refine g_arg hC hS hX hbl hbA hL hi (q := 3) (by decide) hl rfl rfl (z := 3) rfl dL_law_361 dL_law_362 dL_law_364 dL_law_365 dL_law_366 ?_
  refine o_aload_n hx hb dL_law_367 hl rfl ?_
  refine k_L_show hfl hC hS hG hI ml_L_151 ⟨(Nat.le_of_ble_eq_true rfl), (Nat.le_of_ble_eq_true rfl)⟩ hl.1 (Nat.le_of_ble_eq_true rfl) dL_law_368 ⟨show cells + 3 ≤ 601024 by omega, show slots + 18 ≤ 7293034 by omega⟩ (fun h0 ad9 H locs hA hG hS => ?_) (fun t9 ht4 ht0 h1 H locs hG hS => ?_)
  · have hl := LW_ag hA hl
    refine o_istore hx hb dL_law_371 hl (by decide) rfl (fun ls hl => ?_)
    refine o_aload_n hx hb dL_law_373 hl rfl ?_
    refine g_arg hC hS hX hbl hbA hL hi (q := 1) (by decide) hl rfl rfl (z := 1) rfl dL_law_374 dL_law_375 dL_law_377 dL_law_378 dL_law_379 ?_
    refine g_arg hC hS hX hbl hbA hL hi (q := 2) (by decide) hl rfl rfl (z := 2) rfl dL_law_380 dL_law_381 dL_law_383 dL_law_384 dL_law_385 ?_
    refine g_arg hC hS hX hbl hbA hL hi (q := 3) (by decide) hl rfl rfl (z := 3) rfl dL_law_386 dL_law_387 dL_law_389 dL_law_390 dL_law_391 ?_
    refine k_X7_show hC hS hG hI ml_L_153 ⟨(Nat.le_of_ble_eq_true rfl), (Nat.le_of_ble_eq_true rfl)⟩ hl.1 (Nat.le_of_ble_eq_true rfl) dL_law_392 ⟨show cells + 3 + 0 ≤ 601024 by omega, show slots + 18 + 0 ≤ 7293034 by omega⟩ (fun _ H locs hG hS => ?_) (fun _ t8 h8 h9 => absurd (h8.symm.trans h0) h9)
    refine o_istore hx hb dL_law_395 hl (by decide) rfl (fun ls hl => ?_)
    refine o_aload_n hx hb dL_law_397 hl rfl ?_
    refine k_X7_thrown hC hS hG trivial ml_L_144 ⟨(Nat.le_of_ble_eq_true rfl), (Nat.le_of_ble_eq_true rfl)⟩ hl.1 (Nat.le_of_ble_eq_true rfl) dL_law_398 ⟨show cells + 3 + 0 + 0 ≤ 601024 by omega, show slots + 18 + 0 + 0 ≤ 7293034 by omega⟩ ?_
    refine o_iload hx hb dL_law_401 hl rfl ?_
    refine lv_icmp_eq (tgt := 408) hx hb dL_law_403 (by decide) (fun _ => ?_) (fun h => absurd rfl h)
    refine o_iload hx hb dL_law_408 hl rfl ?_
    refine lv_if_ne (tgt := 425) hx hb dL_law_410 (by decide) (fun h => absurd rfl h) (fun _ => ?_)
    refine o_aload_n hx hb dL_law_413 hl rfl ?_
    refine lv_iconst (v := 0) hx hb dL_law_414 (by decide) ?_
    refine g_lald hC hG V_out 0 rfl (by decide) (by decide) dL_law_415 ?_
    refine bl_0 (x := (Int32.toInt64 (shv S (ci (xs (5 * j + 1))) (ci (xs (5 * j + 2)))))) pk_uLs.symm ?_
    refine o_iload hx hb dL_law_416 hl rfl ?_
    refine lv_i2l hx hb dL_law_418 rfl ?_
    refine lv_lcmpE hx hb dL_law_419 ?_
    refine lv_if_eq (tgt := 425) hx hb dL_law_420 (by decide) (fun _ => ?_) (fun h => absurd rfl h)
    refine lv_goto (tgt := 2593) hx hb dL_law_425 (by decide) ?_
    refine W.widen (k := cells + 9) (n := slots + 56) (by omega) (by omega) ?_
    exact k0 h0 ad9 _ _ _ _ _ hG hS (LW_no hl)
  · have ht9 := nI_4 ht4 ht0
    refine o_istore hx hb dL_law_371 hl (by decide) rfl (fun ls hl => ?_)
    refine o_aload_n hx hb dL_law_373 hl rfl ?_
    refine g_arg hC hS hX hbl hbA hL hi (q := 1) (by decide) hl rfl rfl (z := 1) rfl dL_law_374 dL_law_375 dL_law_377 dL_law_378 dL_law_379 ?_
    refine g_arg hC hS hX hbl hbA hL hi (q := 2) (by decide) hl rfl rfl (z := 2) rfl dL_law_380 dL_law_381 dL_law_383 dL_law_384 dL_law_385 ?_
    refine g_arg hC hS hX hbl hbA hL hi (q := 3) (by decide) hl rfl rfl (z := 3) rfl dL_law_386 dL_law_387 dL_law_389 dL_law_390 dL_law_391 ?_
    refine k_X7_show hC hS hG hI ml_L_153 ⟨(Nat.le_of_ble_eq_true rfl), (Nat.le_of_ble_eq_true rfl)⟩ hl.1 (Nat.le_of_ble_eq_true rfl) dL_law_392 ⟨show cells + 3 + 0 ≤ 601024 by omega, show slots + 18 + 0 ≤ 7293034 by omega⟩ (fun h8 => absurd (h1.symm.trans h8) ht0) (fun r9 t8 h8 h9 H locs hG hS => ?_)
    obtain rfl : t8 = t9 := h8.symm.trans h1
    refine o_istore hx hb dL_law_395 hl (by decide) rfl (fun ls hl => ?_)
    refine o_aload_n hx hb dL_law_397 hl rfl ?_
    refine k_X7_thrown hC hS hG trivial ml_L_144 ⟨(Nat.le_of_ble_eq_true rfl), (Nat.le_of_ble_eq_true rfl)⟩ hl.1 (Nat.le_of_ble_eq_true rfl) dL_law_398 ⟨show cells + 3 + 0 + 0 ≤ 601024 by omega, show slots + 18 + 0 + 0 ≤ 7293034 by omega⟩ ?_
    refine o_iload hx hb dL_law_401 hl rfl ?_
    refine lv_icmp_eq (tgt := 408) hx hb dL_law_403 (by decide) (fun _ => ?_) (fun h => absurd rfl h)
    refine o_iload hx hb dL_law_408 hl rfl ?_
    refine lv_if_ne (tgt := 425) hx hb dL_law_410 (by decide) (fun _ => ?_) (fun h => absurd h ht9)
    refine lv_goto (tgt := 2593) hx hb dL_law_425 (by decide) ?_
    refine W.widen (k := cells + 9) (n := slots + 56) (by omega) (by omega) ?_
    exact k1 _ _ _ _ hG hS (LW_no hl)
set_option maxHeartbeats 4000000 in
set_option maxRecDepth 100000 in
theorem q_found {p : Program} {l : Launch} {e : Env} {s : State} {m : MethodId} {args : Array Value} {below : List Frame} {meth : Method} {c : Code} {H : Heap} {locs : List Loc} {cells slots : Nat} {Q : State → Prop} {ls : Array Slot} {D : va_G} {cy : Nat → ClassId} {sa : Nat → Nat} {de B : Nat} {ad : Ad} {S : St} {n : Nat → Nat} {th : Int32} {f : Nat → Int64} {g9 : Nat → UInt64} {b L : Nat} {xs : Nat → Int32} {j : Nat} (hfl : l.stackTraces = false) (hC : Cx p m c cL_law 9 s args RL D cy sa de B) (hS : va_S (AB B) s.heap H locs) (hX : va_X b L xs s s.heap) (hbl : b < s.heap.size) (hbA : ¬ AB B b) (hL : L ≤ 2560) (hi : 5 * j + 4 < L) (hl : lo ls 9 (LW b ad (nI (5 * j)) none none none)) (hG : GW D B ad (Vw cy de ad S n S n th (Xl cy f g9)) H) (hI : Inv S n) (hroom : cells + 9 ≤ 601024 ∧ slots + 56 ≤ 7293034) (k0 : cd_found S n (xs (5 * j + 1)) (xs (5 * j + 2)) = 0 → ∀ (ad9 : Ad) (f2 : Nat → Int64) (g2 : Nat → UInt64) (H1 : Heap) (locs1 : List Loc) (ls1 : Array Slot), GW D B ad9 (Vw cy de ad9 S n S n 0 (Xl cy f2 g2)) H1 → va_S (AB B) s.heap H1 locs1 → lo ls1 9 (LW b ad9 (nI (5 * j)) none none none) → W p l e room_1 s m args below meth c H1 locs1 (cells + 9) (slots + 56) Q (F0 m 2593 ls1 [])) (k1 : ∀ (th9 : Int32) (H1 : Heap) (locs1 : List Loc) (ls1 : Array Slot), GW D B ad (Vw cy de ad S n S n th9 (Xl cy f g9)) H1 → va_S (AB B) s.heap H1 locs1 → lo ls1 9 (LW b ad (nI (5 * j)) none none none) → W p l e room_1 s m args below meth c H1 locs1 (cells + 9) (slots + 56) Q (F0 m 2593 ls1 [])) : W p l e room_1 s m args below meth c H locs cells slots Q (F0 m 428 ls []) := by
  have hx := hC.x
  have hb := hC.b
  refine o_aload_n hx hb dL_law_428 hl rfl ?_
  refine g_arg hC hS hX hbl hbA hL hi (q := 1) (by decide) hl rfl rfl (z := 1) rfl dL_law_429 dL_law_430 dL_law_432 dL_law_433 dL_law_434 ?_
  refine g_arg hC hS hX hbl hbA hL hi (q := 2) (by decide) hl rfl rfl (z := 2) rfl dL_law_435 dL_law_436 dL_law_438 dL_law_439 dL_law_440 ?_
  refine o_aload_n hx hb dL_law_441 hl rfl ?_
  refine k_L_found hfl hC hS hG hI ml_L_154 ⟨(Nat.le_of_ble_eq_true rfl), (Nat.le_of_ble_eq_true rfl)⟩ hl.1 (Nat.le_of_ble_eq_true rfl) dL_law_442 ⟨show cells + 3 ≤ 601024 by omega, show slots + 18 ≤ 7293034 by omega⟩ (fun h0 ad9 H locs hA hG hS => ?_) (fun t9 ht4 ht0 h1 H locs hG hS => ?_)
  · have hl := LW_ag hA hl
    refine o_istore hx hb dL_law_445 hl (by decide) rfl (fun ls hl => ?_)
    refine o_aload_n hx hb dL_law_447 hl rfl ?_
    refine g_arg hC hS hX hbl hbA hL hi (q := 1) (by decide) hl rfl rfl (z := 1) rfl dL_law_448 dL_law_449 dL_law_451 dL_law_452 dL_law_453 ?_
    refine g_arg hC hS hX hbl hbA hL hi (q := 2) (by decide) hl rfl rfl (z := 2) rfl dL_law_454 dL_law_455 dL_law_457 dL_law_458 dL_law_459 ?_
    refine k_X7_found hC hS hG hI ml_L_157 ⟨(Nat.le_of_ble_eq_true rfl), (Nat.le_of_ble_eq_true rfl)⟩ hl.1 (Nat.le_of_ble_eq_true rfl) dL_law_460 ⟨show cells + 3 + 0 ≤ 601024 by omega, show slots + 18 + 0 ≤ 7293034 by omega⟩ (fun _ H locs hG hS => ?_) (fun _ t8 h8 h9 => absurd (h8.symm.trans h0) h9)
    refine o_istore hx hb dL_law_463 hl (by decide) rfl (fun ls hl => ?_)
    refine o_aload_n hx hb dL_law_465 hl rfl ?_
    refine k_X7_thrown hC hS hG trivial ml_L_144 ⟨(Nat.le_of_ble_eq_true rfl), (Nat.le_of_ble_eq_true rfl)⟩ hl.1 (Nat.le_of_ble_eq_true rfl) dL_law_466 ⟨show cells + 3 + 0 + 0 ≤ 601024 by omega, show slots + 18 + 0 + 0 ≤ 7293034 by omega⟩ ?_
    refine o_iload hx hb dL_law_469 hl rfl ?_
    refine lv_icmp_eq (tgt := 476) hx hb dL_law_471 (by decide) (fun _ => ?_) (fun h => absurd rfl h)
    refine o_iload hx hb dL_law_476 hl rfl ?_
    refine lv_if_ne (tgt := 493) hx hb dL_law_478 (by decide) (fun h => absurd rfl h) (fun _ => ?_)
    refine o_aload_n hx hb dL_law_481 hl rfl ?_
    refine lv_iconst (v := 0) hx hb dL_law_482 (by decide) ?_
    refine g_lald hC hG V_out 0 rfl (by decide) (by decide) dL_law_483 ?_
    refine bl_0 (x := (Int32.toInt64 (S 1 (ci (xs (5 * j + 1))) (ci (xs (5 * j + 2)))))) pk_uLs.symm ?_
    refine o_iload hx hb dL_law_484 hl rfl ?_
    refine lv_i2l hx hb dL_law_486 rfl ?_
    refine lv_lcmpE hx hb dL_law_487 ?_
    refine lv_if_eq (tgt := 493) hx hb dL_law_488 (by decide) (fun _ => ?_) (fun h => absurd rfl h)
    refine lv_goto (tgt := 2593) hx hb dL_law_493 (by decide) ?_
    refine W.widen (k := cells + 9) (n := slots + 56) (by omega) (by omega) ?_
    exact k0 h0 ad9 _ _ _ _ _ hG hS (LW_no hl)
  · have ht9 := nI_4 ht4 ht0
    refine o_istore hx hb dL_law_445 hl (by decide) rfl (fun ls hl => ?_)
    refine o_aload_n hx hb dL_law_447 hl rfl ?_
    refine g_arg hC hS hX hbl hbA hL hi (q := 1) (by decide) hl rfl rfl (z := 1) rfl dL_law_448 dL_law_449 dL_law_451 dL_law_452 dL_law_453 ?_
    refine g_arg hC hS hX hbl hbA hL hi (q := 2) (by decide) hl rfl rfl (z := 2) rfl dL_law_454 dL_law_455 dL_law_457 dL_law_458 dL_law_459 ?_
    refine k_X7_found hC hS hG hI ml_L_157 ⟨(Nat.le_of_ble_eq_true rfl), (Nat.le_of_ble_eq_true rfl)⟩ hl.1 (Nat.le_of_ble_eq_true rfl) dL_law_460 ⟨show cells + 3 + 0 ≤ 601024 by omega, show slots + 18 + 0 ≤ 7293034 by omega⟩ (fun h8 => absurd (h1.symm.trans h8) ht0) (fun r9 t8 h8 h9 H locs hG hS => ?_)
    obtain rfl : t8 = t9 := h8.symm.trans h1
    refine o_istore hx hb dL_law_463 hl (by decide) rfl (fun ls hl => ?_)
    refine o_aload_n hx hb dL_law_465 hl rfl ?_
    refine k_X7_thrown hC hS hG trivial ml_L_144 ⟨(Nat.le_of_ble_eq_true rfl), (Nat.le_of_ble_eq_true rfl)⟩ hl.1 (Nat.le_of_ble_eq_true rfl) dL_law_466 ⟨show cells + 3 + 0 + 0 ≤ 601024 by omega, show slots + 18 + 0 + 0 ≤ 7293034 by omega⟩ ?_
    refine o_iload hx hb dL_law_469 hl rfl ?_
    refine lv_icmp_eq (tgt := 476) hx hb dL_law_471 (by decide) (fun _ => ?_) (fun h => absurd rfl h)
    refine o_iload hx hb dL_law_476 hl rfl ?_
    refine lv_if_ne (tgt := 493) hx hb dL_law_478 (by decide) (fun _ => ?_) (fun h => absurd h ht9)
    refine lv_goto (tgt := 2593) hx hb dL_law_493 (by decide) ?_
    refine W.widen (k := cells + 9) (n := slots + 56) (by omega) (by omega) ?_
    exact k1 _ _ _ _ hG hS (LW_no hl)
set_option maxHeartbeats 4000000 in
set_option maxRecDepth 100000 in
theorem q_classifier {p : Program} {l : Launch} {e : Env} {s : State} {m : MethodId} {args : Array Value} {below : List Frame} {meth : Method} {c : Code} {H : Heap} {locs : List Loc} {cells slots : Nat} {Q : State → Prop} {ls : Array Slot} {D : va_G} {cy : Nat → ClassId} {sa : Nat → Nat} {de B : Nat} {ad : Ad} {S : St} {n : Nat → Nat} {th : Int32} {f : Nat → Int64} {g9 : Nat → UInt64} {b L : Nat} {xs : Nat → Int32} {j : Nat} (hfl : l.stackTraces = false) (hC : Cx p m c cL_law 9 s args RL D cy sa de B) (hS : va_S (AB B) s.heap H locs) (hX : va_X b L xs s s.heap) (hbl : b < s.heap.size) (hbA : ¬ AB B b) (hL : L ≤ 2560) (hi : 5 * j + 4 < L) (hl : lo ls 9 (LW b ad (nI (5 * j)) none none none)) (hG : GW D B ad (Vw cy de ad S n S n th (Xl cy f g9)) H) (hI : Inv S n) (hroom : cells + 9 ≤ 601024 ∧ slots + 56 ≤ 7293034) (k0 : cd_classifier n (xs (5 * j + 1)) = 0 → ∀ (ad9 : Ad) (f2 : Nat → Int64) (g2 : Nat → UInt64) (H1 : Heap) (locs1 : List Loc) (ls1 : Array Slot), GW D B ad9 (Vw cy de ad9 (clS S (n 1) (xs (5 * j + 1))) (nUp n 1) (clS S (n 1) (xs (5 * j + 1))) (nUp n 1) 0 (Xl cy f2 g2)) H1 → va_S (AB B) s.heap H1 locs1 → lo ls1 9 (LW b ad9 (nI (5 * j)) none none none) → W p l e room_1 s m args below meth c H1 locs1 (cells + 9) (slots + 56) Q (F0 m 2593 ls1 [])) (k1 : ∀ (th9 : Int32) (H1 : Heap) (locs1 : List Loc) (ls1 : Array Slot), GW D B ad (Vw cy de ad S n S n th9 (Xl cy f g9)) H1 → va_S (AB B) s.heap H1 locs1 → lo ls1 9 (LW b ad (nI (5 * j)) none none none) → W p l e room_1 s m args below meth c H1 locs1 (cells + 9) (slots + 56) Q (F0 m 2593 ls1 [])) : W p l e room_1 s m args below meth c H locs cells slots Q (F0 m 496 ls []) := by
  have hx := hC.x
  have hb := hC.b
  refine o_aload_n hx hb dL_law_496 hl rfl ?_
  refine g_arg hC hS hX hbl hbA hL hi (q := 1) (by decide) hl rfl rfl (z := 1) rfl dL_law_497 dL_law_498 dL_law_500 dL_law_501 dL_law_502 ?_
  refine o_aload_n hx hb dL_law_503 hl rfl ?_
  refine k_L_classifier hfl hC hS hG hI ml_L_158 ⟨(Nat.le_of_ble_eq_true rfl), (Nat.le_of_ble_eq_true rfl)⟩ hl.1 (Nat.le_of_ble_eq_true rfl) dL_law_504 ⟨show cells + 3 ≤ 601024 by omega, show slots + 29 ≤ 7293034 by omega⟩ (fun h0 ad9 H locs hA hG hS => ?_) (fun t9 ht4 ht0 h1 H locs hG hS => ?_)
  · have hl := LW_ag hA hl
    refine o_istore hx hb dL_law_507 hl (by decide) rfl (fun ls hl => ?_)
    refine o_aload_n hx hb dL_law_509 hl rfl ?_
    refine g_arg hC hS hX hbl hbA hL hi (q := 1) (by decide) hl rfl rfl (z := 1) rfl dL_law_510 dL_law_511 dL_law_513 dL_law_514 dL_law_515 ?_
    refine k_X7_classifier hC hS hG hI ml_L_160 ⟨(Nat.le_of_ble_eq_true rfl), (Nat.le_of_ble_eq_true rfl)⟩ hl.1 (Nat.le_of_ble_eq_true rfl) dL_law_516 ⟨show cells + 3 + 0 ≤ 601024 by omega, show slots + 29 + 0 ≤ 7293034 by omega⟩ (fun _ H locs hG hS => ?_) (fun _ t8 h8 h9 => absurd (h8.symm.trans h0) h9)
    refine o_istore hx hb dL_law_519 hl (by decide) rfl (fun ls hl => ?_)
    refine o_aload_n hx hb dL_law_521 hl rfl ?_
    refine k_X7_thrown hC hS hG trivial ml_L_144 ⟨(Nat.le_of_ble_eq_true rfl), (Nat.le_of_ble_eq_true rfl)⟩ hl.1 (Nat.le_of_ble_eq_true rfl) dL_law_522 ⟨show cells + 3 + 0 + 0 ≤ 601024 by omega, show slots + 29 + 0 + 0 ≤ 7293034 by omega⟩ ?_
    refine o_iload hx hb dL_law_525 hl rfl ?_
    refine lv_icmp_eq (tgt := 532) hx hb dL_law_527 (by decide) (fun _ => ?_) (fun h => absurd rfl h)
    refine o_iload hx hb dL_law_532 hl rfl ?_
    refine lv_if_ne (tgt := 549) hx hb dL_law_534 (by decide) (fun h => absurd rfl h) (fun _ => ?_)
    refine o_aload_n hx hb dL_law_537 hl rfl ?_
    refine lv_iconst (v := 0) hx hb dL_law_538 (by decide) ?_
    refine g_lald hC hG V_out 0 rfl (by decide) (by decide) dL_law_539 ?_
    refine bl_0 (x := (Int32.toInt64 (nI (n 1)))) pk_uLs.symm ?_
    refine o_iload hx hb dL_law_540 hl rfl ?_
    refine lv_i2l hx hb dL_law_542 rfl ?_
    refine lv_lcmpE hx hb dL_law_543 ?_
    refine lv_if_eq (tgt := 549) hx hb dL_law_544 (by decide) (fun _ => ?_) (fun h => absurd rfl h)
    refine lv_goto (tgt := 2593) hx hb dL_law_549 (by decide) ?_
    refine W.widen (k := cells + 9) (n := slots + 56) (by omega) (by omega) ?_
    exact k0 h0 ad9 _ _ _ _ _ hG hS (LW_no hl)
  · have ht9 := nI_4 ht4 ht0
    refine o_istore hx hb dL_law_507 hl (by decide) rfl (fun ls hl => ?_)
    refine o_aload_n hx hb dL_law_509 hl rfl ?_
    refine g_arg hC hS hX hbl hbA hL hi (q := 1) (by decide) hl rfl rfl (z := 1) rfl dL_law_510 dL_law_511 dL_law_513 dL_law_514 dL_law_515 ?_
    refine k_X7_classifier hC hS hG hI ml_L_160 ⟨(Nat.le_of_ble_eq_true rfl), (Nat.le_of_ble_eq_true rfl)⟩ hl.1 (Nat.le_of_ble_eq_true rfl) dL_law_516 ⟨show cells + 3 + 0 ≤ 601024 by omega, show slots + 29 + 0 ≤ 7293034 by omega⟩ (fun h8 => absurd (h1.symm.trans h8) ht0) (fun r9 t8 h8 h9 H locs hG hS => ?_)
    obtain rfl : t8 = t9 := h8.symm.trans h1
    refine o_istore hx hb dL_law_519 hl (by decide) rfl (fun ls hl => ?_)
    refine o_aload_n hx hb dL_law_521 hl rfl ?_
    refine k_X7_thrown hC hS hG trivial ml_L_144 ⟨(Nat.le_of_ble_eq_true rfl), (Nat.le_of_ble_eq_true rfl)⟩ hl.1 (Nat.le_of_ble_eq_true rfl) dL_law_522 ⟨show cells + 3 + 0 + 0 ≤ 601024 by omega, show slots + 29 + 0 + 0 ≤ 7293034 by omega⟩ ?_
    refine o_iload hx hb dL_law_525 hl rfl ?_
    refine lv_icmp_eq (tgt := 532) hx hb dL_law_527 (by decide) (fun _ => ?_) (fun h => absurd rfl h)
    refine o_iload hx hb dL_law_532 hl rfl ?_
    refine lv_if_ne (tgt := 549) hx hb dL_law_534 (by decide) (fun _ => ?_) (fun h => absurd h ht9)
    refine lv_goto (tgt := 2593) hx hb dL_law_549 (by decide) ?_
    refine W.widen (k := cells + 9) (n := slots + 56) (by omega) (by omega) ?_
    exact k1 _ _ _ _ hG hS (LW_no hl)
set_option maxHeartbeats 4000000 in
set_option maxRecDepth 100000 in
theorem q_kind {p : Program} {l : Launch} {e : Env} {s : State} {m : MethodId} {args : Array Value} {below : List Frame} {meth : Method} {c : Code} {H : Heap} {locs : List Loc} {cells slots : Nat} {Q : State → Prop} {ls : Array Slot} {D : va_G} {cy : Nat → ClassId} {sa : Nat → Nat} {de B : Nat} {ad : Ad} {S : St} {n : Nat → Nat} {th : Int32} {f : Nat → Int64} {g9 : Nat → UInt64} {b L : Nat} {xs : Nat → Int32} {j : Nat} (hfl : l.stackTraces = false) (hC : Cx p m c cL_law 9 s args RL D cy sa de B) (hS : va_S (AB B) s.heap H locs) (hX : va_X b L xs s s.heap) (hbl : b < s.heap.size) (hbA : ¬ AB B b) (hL : L ≤ 2560) (hi : 5 * j + 4 < L) (hl : lo ls 9 (LW b ad (nI (5 * j)) none none none)) (hG : GW D B ad (Vw cy de ad S n S n th (Xl cy f g9)) H) (hI : Inv S n) (hroom : cells + 9 ≤ 601024 ∧ slots + 56 ≤ 7293034) (k0 : cd_kind n (xs (5 * j + 1)) (xs (5 * j + 2)) (xs (5 * j + 3)) (xs (5 * j + 4)) = 0 → ∀ (ad9 : Ad) (f2 : Nat → Int64) (g2 : Nat → UInt64) (H1 : Heap) (locs1 : List Loc) (ls1 : Array Slot), GW D B ad9 (Vw cy de ad9 (kiS S (n 2) (xs (5 * j + 1)) (xs (5 * j + 2)) (xs (5 * j + 3)) (xs (5 * j + 4))) (nUp n 2) (kiS S (n 2) (xs (5 * j + 1)) (xs (5 * j + 2)) (xs (5 * j + 3)) (xs (5 * j + 4))) (nUp n 2) 0 (Xl cy f2 g2)) H1 → va_S (AB B) s.heap H1 locs1 → lo ls1 9 (LW b ad9 (nI (5 * j)) none none none) → W p l e room_1 s m args below meth c H1 locs1 (cells + 9) (slots + 56) Q (F0 m 2593 ls1 [])) (k1 : ∀ (th9 : Int32) (H1 : Heap) (locs1 : List Loc) (ls1 : Array Slot), GW D B ad (Vw cy de ad S n S n th9 (Xl cy f g9)) H1 → va_S (AB B) s.heap H1 locs1 → lo ls1 9 (LW b ad (nI (5 * j)) none none none) → W p l e room_1 s m args below meth c H1 locs1 (cells + 9) (slots + 56) Q (F0 m 2593 ls1 [])) : W p l e room_1 s m args below meth c H locs cells slots Q (F0 m 552 ls []) := by
  have hx := hC.x
  have hb := hC.b
  refine o_aload_n hx hb dL_law_552 hl rfl ?_
  refine g_arg hC hS hX hbl hbA hL hi (q := 1) (by decide) hl rfl rfl (z := 1) rfl dL_law_553 dL_law_554 dL_law_556 dL_law_557 dL_law_558 ?_
  refine g_arg hC hS hX hbl hbA hL hi (q := 2) (by decide) hl rfl rfl (z := 2) rfl dL_law_559 dL_law_560 dL_law_562 dL_law_563 dL_law_564 ?_
  refine g_arg hC hS hX hbl hbA hL hi (q := 3) (by decide) hl rfl rfl (z := 3) rfl dL_law_565 dL_law_566 dL_law_568 dL_law_569 dL_law_570 ?_
  refine g_arg hC hS hX hbl hbA hL hi (q := 4) (by decide) hl rfl rfl (z := 4) rfl dL_law_571 dL_law_572 dL_law_574 dL_law_575 dL_law_576 ?_
  refine o_aload_n hx hb dL_law_577 hl rfl ?_
  refine k_L_kind hfl hC hS hG hI ml_L_161 ⟨(Nat.le_of_ble_eq_true rfl), (Nat.le_of_ble_eq_true rfl)⟩ hl.1 (Nat.le_of_ble_eq_true rfl) dL_law_578 ⟨show cells + 4 ≤ 601024 by omega, show slots + 40 ≤ 7293034 by omega⟩ (fun h0 ad9 H locs hA hG hS => ?_) (fun t9 ht4 ht0 h1 H locs hG hS => ?_)
  · have hl := LW_ag hA hl
    refine o_istore hx hb dL_law_581 hl (by decide) rfl (fun ls hl => ?_)
    refine o_aload_n hx hb dL_law_583 hl rfl ?_
    refine g_arg hC hS hX hbl hbA hL hi (q := 1) (by decide) hl rfl rfl (z := 1) rfl dL_law_584 dL_law_585 dL_law_587 dL_law_588 dL_law_589 ?_
    refine g_arg hC hS hX hbl hbA hL hi (q := 2) (by decide) hl rfl rfl (z := 2) rfl dL_law_590 dL_law_591 dL_law_593 dL_law_594 dL_law_595 ?_
    refine g_arg hC hS hX hbl hbA hL hi (q := 3) (by decide) hl rfl rfl (z := 3) rfl dL_law_596 dL_law_597 dL_law_599 dL_law_600 dL_law_601 ?_
    refine g_arg hC hS hX hbl hbA hL hi (q := 4) (by decide) hl rfl rfl (z := 4) rfl dL_law_602 dL_law_603 dL_law_605 dL_law_606 dL_law_607 ?_
    refine k_X7_kind hC hS hG hI ml_L_164 ⟨(Nat.le_of_ble_eq_true rfl), (Nat.le_of_ble_eq_true rfl)⟩ hl.1 (Nat.le_of_ble_eq_true rfl) dL_law_608 ⟨show cells + 4 + 0 ≤ 601024 by omega, show slots + 40 + 0 ≤ 7293034 by omega⟩ (fun _ H locs hG hS => ?_) (fun _ t8 h8 h9 => absurd (h8.symm.trans h0) h9)
    refine o_istore hx hb dL_law_611 hl (by decide) rfl (fun ls hl => ?_)
    refine o_aload_n hx hb dL_law_613 hl rfl ?_
    refine k_X7_thrown hC hS hG trivial ml_L_144 ⟨(Nat.le_of_ble_eq_true rfl), (Nat.le_of_ble_eq_true rfl)⟩ hl.1 (Nat.le_of_ble_eq_true rfl) dL_law_614 ⟨show cells + 4 + 0 + 0 ≤ 601024 by omega, show slots + 40 + 0 + 0 ≤ 7293034 by omega⟩ ?_
    refine o_iload hx hb dL_law_617 hl rfl ?_
    refine lv_icmp_eq (tgt := 624) hx hb dL_law_619 (by decide) (fun _ => ?_) (fun h => absurd rfl h)
    refine o_iload hx hb dL_law_624 hl rfl ?_
    refine lv_if_ne (tgt := 641) hx hb dL_law_626 (by decide) (fun h => absurd rfl h) (fun _ => ?_)
    refine o_aload_n hx hb dL_law_629 hl rfl ?_
    refine lv_iconst (v := 0) hx hb dL_law_630 (by decide) ?_
    refine g_lald hC hG V_out 0 rfl (by decide) (by decide) dL_law_631 ?_
    refine bl_0 (x := (Int32.toInt64 (nI (n 2)))) pk_uLs.symm ?_
    refine o_iload hx hb dL_law_632 hl rfl ?_
    refine lv_i2l hx hb dL_law_634 rfl ?_
    refine lv_lcmpE hx hb dL_law_635 ?_
    refine lv_if_eq (tgt := 641) hx hb dL_law_636 (by decide) (fun _ => ?_) (fun h => absurd rfl h)
    refine lv_goto (tgt := 2593) hx hb dL_law_641 (by decide) ?_
    refine W.widen (k := cells + 9) (n := slots + 56) (by omega) (by omega) ?_
    exact k0 h0 ad9 _ _ _ _ _ hG hS (LW_no hl)
  · have ht9 := nI_4 ht4 ht0
    refine o_istore hx hb dL_law_581 hl (by decide) rfl (fun ls hl => ?_)
    refine o_aload_n hx hb dL_law_583 hl rfl ?_
    refine g_arg hC hS hX hbl hbA hL hi (q := 1) (by decide) hl rfl rfl (z := 1) rfl dL_law_584 dL_law_585 dL_law_587 dL_law_588 dL_law_589 ?_
    refine g_arg hC hS hX hbl hbA hL hi (q := 2) (by decide) hl rfl rfl (z := 2) rfl dL_law_590 dL_law_591 dL_law_593 dL_law_594 dL_law_595 ?_
    refine g_arg hC hS hX hbl hbA hL hi (q := 3) (by decide) hl rfl rfl (z := 3) rfl dL_law_596 dL_law_597 dL_law_599 dL_law_600 dL_law_601 ?_
    refine g_arg hC hS hX hbl hbA hL hi (q := 4) (by decide) hl rfl rfl (z := 4) rfl dL_law_602 dL_law_603 dL_law_605 dL_law_606 dL_law_607 ?_
    refine k_X7_kind hC hS hG hI ml_L_164 ⟨(Nat.le_of_ble_eq_true rfl), (Nat.le_of_ble_eq_true rfl)⟩ hl.1 (Nat.le_of_ble_eq_true rfl) dL_law_608 ⟨show cells + 4 + 0 ≤ 601024 by omega, show slots + 40 + 0 ≤ 7293034 by omega⟩ (fun h8 => absurd (h1.symm.trans h8) ht0) (fun r9 t8 h8 h9 H locs hG hS => ?_)
    obtain rfl : t8 = t9 := h8.symm.trans h1
    refine o_istore hx hb dL_law_611 hl (by decide) rfl (fun ls hl => ?_)
    refine o_aload_n hx hb dL_law_613 hl rfl ?_
    refine k_X7_thrown hC hS hG trivial ml_L_144 ⟨(Nat.le_of_ble_eq_true rfl), (Nat.le_of_ble_eq_true rfl)⟩ hl.1 (Nat.le_of_ble_eq_true rfl) dL_law_614 ⟨show cells + 4 + 0 + 0 ≤ 601024 by omega, show slots + 40 + 0 + 0 ≤ 7293034 by omega⟩ ?_
    refine o_iload hx hb dL_law_617 hl rfl ?_
    refine lv_icmp_eq (tgt := 624) hx hb dL_law_619 (by decide) (fun _ => ?_) (fun h => absurd rfl h)
    refine o_iload hx hb dL_law_624 hl rfl ?_
    refine lv_if_ne (tgt := 641) hx hb dL_law_626 (by decide) (fun _ => ?_) (fun h => absurd h ht9)
    refine lv_goto (tgt := 2593) hx hb dL_law_641 (by decide) ?_
    refine W.widen (k := cells + 9) (n := slots + 56) (by omega) (by omega) ?_
    exact k1 _ _ _ _ hG hS (LW_no hl)
set_option maxHeartbeats 4000000 in
set_option maxRecDepth 100000 in
theorem q_belongs {p : Program} {l : Launch} {e : Env} {s : State} {m : MethodId} {args : Array Value} {below : List Frame} {meth : Method} {c : Code} {H : Heap} {locs : List Loc} {cells slots : Nat} {Q : State → Prop} {ls : Array Slot} {D : va_G} {cy : Nat → ClassId} {sa : Nat → Nat} {de B : Nat} {ad : Ad} {S : St} {n : Nat → Nat} {th : Int32} {f : Nat → Int64} {g9 : Nat → UInt64} {b L : Nat} {xs : Nat → Int32} {j : Nat} (hfl : l.stackTraces = false) (hC : Cx p m c cL_law 9 s args RL D cy sa de B) (hS : va_S (AB B) s.heap H locs) (hX : va_X b L xs s s.heap) (hbl : b < s.heap.size) (hbA : ¬ AB B b) (hL : L ≤ 2560) (hi : 5 * j + 4 < L) (hl : lo ls 9 (LW b ad (nI (5 * j)) none none none)) (hG : GW D B ad (Vw cy de ad S n S n th (Xl cy f g9)) H) (hI : Inv S n) (hroom : cells + 9 ≤ 601024 ∧ slots + 56 ≤ 7293034) (k0 : cd_ath n (xs (5 * j + 1)) = 0 → ∀ (ad9 : Ad) (f2 : Nat → Int64) (g2 : Nat → UInt64) (H1 : Heap) (locs1 : List Loc) (ls1 : Array Slot), GW D B ad9 (Vw cy de ad9 S n S n 0 (Xl cy f2 g2)) H1 → va_S (AB B) s.heap H1 locs1 → lo ls1 9 (LW b ad9 (nI (5 * j)) none none none) → W p l e room_1 s m args below meth c H1 locs1 (cells + 9) (slots + 56) Q (F0 m 2593 ls1 [])) (k1 : ∀ (th9 : Int32) (H1 : Heap) (locs1 : List Loc) (ls1 : Array Slot), GW D B ad (Vw cy de ad S n S n th9 (Xl cy f g9)) H1 → va_S (AB B) s.heap H1 locs1 → lo ls1 9 (LW b ad (nI (5 * j)) none none none) → W p l e room_1 s m args below meth c H1 locs1 (cells + 9) (slots + 56) Q (F0 m 2593 ls1 [])) : W p l e room_1 s m args below meth c H locs cells slots Q (F0 m 644 ls []) := by
  have hx := hC.x
  have hb := hC.b
  refine o_aload_n hx hb dL_law_644 hl rfl ?_
  refine g_arg hC hS hX hbl hbA hL hi (q := 1) (by decide) hl rfl rfl (z := 1) rfl dL_law_645 dL_law_646 dL_law_648 dL_law_649 dL_law_650 ?_
  refine o_aload_n hx hb dL_law_651 hl rfl ?_
  refine k_L_belongs hfl hC hS hG hI ml_L_165 ⟨(Nat.le_of_ble_eq_true rfl), (Nat.le_of_ble_eq_true rfl)⟩ hl.1 (Nat.le_of_ble_eq_true rfl) dL_law_652 ⟨show cells + 1 ≤ 601024 by omega, show slots + 6 ≤ 7293034 by omega⟩ (fun h0 ad9 H locs hA hG hS => ?_) (fun t9 ht4 ht0 h1 H locs hG hS => ?_)
  · have hl := LW_ag hA hl
    refine o_istore hx hb dL_law_655 hl (by decide) rfl (fun ls hl => ?_)
    refine o_aload_n hx hb dL_law_657 hl rfl ?_
    refine g_arg hC hS hX hbl hbA hL hi (q := 1) (by decide) hl rfl rfl (z := 1) rfl dL_law_658 dL_law_659 dL_law_661 dL_law_662 dL_law_663 ?_
    refine k_X7_belongs hC hS hG hI ml_L_167 ⟨(Nat.le_of_ble_eq_true rfl), (Nat.le_of_ble_eq_true rfl)⟩ hl.1 (Nat.le_of_ble_eq_true rfl) dL_law_664 ⟨show cells + 1 + 0 ≤ 601024 by omega, show slots + 6 + 0 ≤ 7293034 by omega⟩ (fun _ H locs hG hS => ?_) (fun _ t8 h8 h9 => absurd (h8.symm.trans h0) h9)
    refine o_istore hx hb dL_law_667 hl (by decide) rfl (fun ls hl => ?_)
    refine o_aload_n hx hb dL_law_669 hl rfl ?_
    refine k_X7_thrown hC hS hG trivial ml_L_144 ⟨(Nat.le_of_ble_eq_true rfl), (Nat.le_of_ble_eq_true rfl)⟩ hl.1 (Nat.le_of_ble_eq_true rfl) dL_law_670 ⟨show cells + 1 + 0 + 0 ≤ 601024 by omega, show slots + 6 + 0 + 0 ≤ 7293034 by omega⟩ ?_
    refine o_iload hx hb dL_law_673 hl rfl ?_
    refine lv_icmp_eq (tgt := 680) hx hb dL_law_675 (by decide) (fun _ => ?_) (fun h => absurd rfl h)
    refine o_iload hx hb dL_law_680 hl rfl ?_
    refine lv_if_ne (tgt := 697) hx hb dL_law_682 (by decide) (fun h => absurd rfl h) (fun _ => ?_)
    refine o_aload_n hx hb dL_law_685 hl rfl ?_
    refine lv_iconst (v := 0) hx hb dL_law_686 (by decide) ?_
    refine g_lald hC hG V_out 0 rfl (by decide) (by decide) dL_law_687 ?_
    refine bl_0 (x := (Int32.toInt64 (kbel S n (fMea S (ci (xs (5 * j + 1))) 0)))) pk_uLs.symm ?_
    refine o_iload hx hb dL_law_688 hl rfl ?_
    refine lv_i2l hx hb dL_law_690 rfl ?_
    refine lv_lcmpE hx hb dL_law_691 ?_
    refine lv_if_eq (tgt := 697) hx hb dL_law_692 (by decide) (fun _ => ?_) (fun h => absurd rfl h)
    refine lv_goto (tgt := 2593) hx hb dL_law_697 (by decide) ?_
    refine W.widen (k := cells + 9) (n := slots + 56) (by omega) (by omega) ?_
    exact k0 h0 ad9 _ _ _ _ _ hG hS (LW_no hl)
  · have ht9 := nI_4 ht4 ht0
    refine o_istore hx hb dL_law_655 hl (by decide) rfl (fun ls hl => ?_)
    refine o_aload_n hx hb dL_law_657 hl rfl ?_
    refine g_arg hC hS hX hbl hbA hL hi (q := 1) (by decide) hl rfl rfl (z := 1) rfl dL_law_658 dL_law_659 dL_law_661 dL_law_662 dL_law_663 ?_
    refine k_X7_belongs hC hS hG hI ml_L_167 ⟨(Nat.le_of_ble_eq_true rfl), (Nat.le_of_ble_eq_true rfl)⟩ hl.1 (Nat.le_of_ble_eq_true rfl) dL_law_664 ⟨show cells + 1 + 0 ≤ 601024 by omega, show slots + 6 + 0 ≤ 7293034 by omega⟩ (fun h8 => absurd (h1.symm.trans h8) ht0) (fun r9 t8 h8 h9 H locs hG hS => ?_)
    obtain rfl : t8 = t9 := h8.symm.trans h1
    refine o_istore hx hb dL_law_667 hl (by decide) rfl (fun ls hl => ?_)
    refine o_aload_n hx hb dL_law_669 hl rfl ?_
    refine k_X7_thrown hC hS hG trivial ml_L_144 ⟨(Nat.le_of_ble_eq_true rfl), (Nat.le_of_ble_eq_true rfl)⟩ hl.1 (Nat.le_of_ble_eq_true rfl) dL_law_670 ⟨show cells + 1 + 0 + 0 ≤ 601024 by omega, show slots + 6 + 0 + 0 ≤ 7293034 by omega⟩ ?_
    refine o_iload hx hb dL_law_673 hl rfl ?_
    refine lv_icmp_eq (tgt := 680) hx hb dL_law_675 (by decide) (fun _ => ?_) (fun h => absurd rfl h)
    refine o_iload hx hb dL_law_680 hl rfl ?_
    refine lv_if_ne (tgt := 697) hx hb dL_law_682 (by decide) (fun _ => ?_) (fun h => absurd h ht9)
    refine lv_goto (tgt := 2593) hx hb dL_law_697 (by decide) ?_
    refine W.widen (k := cells + 9) (n := slots + 56) (by omega) (by omega) ?_
    exact k1 _ _ _ _ hG hS (LW_no hl)
set_option maxHeartbeats 4000000 in
set_option maxRecDepth 100000 in
theorem q_test {p : Program} {l : Launch} {e : Env} {s : State} {m : MethodId} {args : Array Value} {below : List Frame} {meth : Method} {c : Code} {H : Heap} {locs : List Loc} {cells slots : Nat} {Q : State → Prop} {ls : Array Slot} {D : va_G} {cy : Nat → ClassId} {sa : Nat → Nat} {de B : Nat} {ad : Ad} {S : St} {n : Nat → Nat} {th : Int32} {f : Nat → Int64} {g9 : Nat → UInt64} {b L : Nat} {xs : Nat → Int32} {j : Nat} (hfl : l.stackTraces = false) (hC : Cx p m c cL_law 9 s args RL D cy sa de B) (hS : va_S (AB B) s.heap H locs) (hX : va_X b L xs s s.heap) (hbl : b < s.heap.size) (hbA : ¬ AB B b) (hL : L ≤ 2560) (hi : 5 * j + 4 < L) (hl : lo ls 9 (LW b ad (nI (5 * j)) none none none)) (hG : GW D B ad (Vw cy de ad S n S n th (Xl cy f g9)) H) (hI : Inv S n) (hroom : cells + 9 ≤ 601024 ∧ slots + 56 ≤ 7293034) (k0 : cd_test S n (xs (5 * j + 1)) (xs (5 * j + 2)) (xs (5 * j + 3)) = 0 → ∀ (ad9 : Ad) (f2 : Nat → Int64) (g2 : Nat → UInt64) (H1 : Heap) (locs1 : List Loc) (ls1 : Array Slot), GW D B ad9 (Vw cy de ad9 (teS S n (ci (xs (5 * j + 1)))) n (teS S n (ci (xs (5 * j + 1)))) n 0 (Xl cy f2 g2)) H1 → va_S (AB B) s.heap H1 locs1 → lo ls1 9 (LW b ad9 (nI (5 * j)) none none none) → W p l e room_1 s m args below meth c H1 locs1 (cells + 9) (slots + 56) Q (F0 m 2593 ls1 [])) (k1 : ∀ (th9 : Int32) (H1 : Heap) (locs1 : List Loc) (ls1 : Array Slot), GW D B ad (Vw cy de ad S n S n th9 (Xl cy f g9)) H1 → va_S (AB B) s.heap H1 locs1 → lo ls1 9 (LW b ad (nI (5 * j)) none none none) → W p l e room_1 s m args below meth c H1 locs1 (cells + 9) (slots + 56) Q (F0 m 2593 ls1 [])) : W p l e room_1 s m args below meth c H locs cells slots Q (F0 m 700 ls []) := by
  have hx := hC.x
  have hb := hC.b
  refine o_aload_n hx hb dL_law_700 hl rfl ?_
  refine g_arg hC hS hX hbl hbA hL hi (q := 1) (by decide) hl rfl rfl (z := 1) rfl dL_law_701 dL_law_702 dL_law_704 dL_law_705 dL_law_706 ?_
  refine g_arg hC hS hX hbl hbA hL hi (q := 2) (by decide) hl rfl rfl (z := 2) rfl dL_law_707 dL_law_708 dL_law_710 dL_law_711 dL_law_712 ?_
  refine g_arg hC hS hX hbl hbA hL hi (q := 3) (by decide) hl rfl rfl (z := 3) rfl dL_law_713 dL_law_714 dL_law_716 dL_law_717 dL_law_718 ?_
  refine o_aload_n hx hb dL_law_719 hl rfl ?_
  refine k_L_test hfl hC hS hG hI ml_L_168 ⟨(Nat.le_of_ble_eq_true rfl), (Nat.le_of_ble_eq_true rfl)⟩ hl.1 (Nat.le_of_ble_eq_true rfl) dL_law_720 ⟨show cells + 4 ≤ 601024 by omega, show slots + 24 ≤ 7293034 by omega⟩ (fun h0 ad9 H locs hA hG hS => ?_) (fun t9 ht4 ht0 h1 H locs hG hS => ?_)
  · have hl := LW_ag hA hl
    refine o_istore hx hb dL_law_723 hl (by decide) rfl (fun ls hl => ?_)
    refine o_aload_n hx hb dL_law_725 hl rfl ?_
    refine g_arg hC hS hX hbl hbA hL hi (q := 1) (by decide) hl rfl rfl (z := 1) rfl dL_law_726 dL_law_727 dL_law_729 dL_law_730 dL_law_731 ?_
    refine g_arg hC hS hX hbl hbA hL hi (q := 2) (by decide) hl rfl rfl (z := 2) rfl dL_law_732 dL_law_733 dL_law_735 dL_law_736 dL_law_737 ?_
    refine g_arg hC hS hX hbl hbA hL hi (q := 3) (by decide) hl rfl rfl (z := 3) rfl dL_law_738 dL_law_739 dL_law_741 dL_law_742 dL_law_743 ?_
    refine k_X7_test hC hS hG hI ml_L_170 ⟨(Nat.le_of_ble_eq_true rfl), (Nat.le_of_ble_eq_true rfl)⟩ hl.1 (Nat.le_of_ble_eq_true rfl) dL_law_744 ⟨show cells + 4 + 0 ≤ 601024 by omega, show slots + 24 + 0 ≤ 7293034 by omega⟩ (fun _ H locs hG hS => ?_) (fun _ t8 h8 h9 => absurd (h8.symm.trans h0) h9)
    refine o_istore hx hb dL_law_747 hl (by decide) rfl (fun ls hl => ?_)
    refine o_aload_n hx hb dL_law_749 hl rfl ?_
    refine k_X7_thrown hC hS hG trivial ml_L_144 ⟨(Nat.le_of_ble_eq_true rfl), (Nat.le_of_ble_eq_true rfl)⟩ hl.1 (Nat.le_of_ble_eq_true rfl) dL_law_750 ⟨show cells + 4 + 0 + 0 ≤ 601024 by omega, show slots + 24 + 0 + 0 ≤ 7293034 by omega⟩ ?_
    refine o_iload hx hb dL_law_753 hl rfl ?_
    refine lv_icmp_eq (tgt := 760) hx hb dL_law_755 (by decide) (fun _ => ?_) (fun h => absurd rfl h)
    refine o_iload hx hb dL_law_760 hl rfl ?_
    refine lv_if_ne (tgt := 777) hx hb dL_law_762 (by decide) (fun h => absurd rfl h) (fun _ => ?_)
    refine o_aload_n hx hb dL_law_765 hl rfl ?_
    refine lv_iconst (v := 0) hx hb dL_law_766 (by decide) ?_
    refine g_lald hC hG V_out 0 rfl (by decide) (by decide) dL_law_767 ?_
    refine bl_0 (x := (Int32.toInt64 (teS S n (ci (xs (5 * j + 1))) 9 (ci (xs (5 * j + 1))) 0))) pk_uLs.symm ?_
    refine o_iload hx hb dL_law_768 hl rfl ?_
    refine lv_i2l hx hb dL_law_770 rfl ?_
    refine lv_lcmpE hx hb dL_law_771 ?_
    refine lv_if_eq (tgt := 777) hx hb dL_law_772 (by decide) (fun _ => ?_) (fun h => absurd rfl h)
    refine lv_goto (tgt := 2593) hx hb dL_law_777 (by decide) ?_
    refine W.widen (k := cells + 9) (n := slots + 56) (by omega) (by omega) ?_
    exact k0 h0 ad9 _ _ _ _ _ hG hS (LW_no hl)
  · have ht9 := nI_4 ht4 ht0
    refine o_istore hx hb dL_law_723 hl (by decide) rfl (fun ls hl => ?_)
    refine o_aload_n hx hb dL_law_725 hl rfl ?_
    refine g_arg hC hS hX hbl hbA hL hi (q := 1) (by decide) hl rfl rfl (z := 1) rfl dL_law_726 dL_law_727 dL_law_729 dL_law_730 dL_law_731 ?_
    refine g_arg hC hS hX hbl hbA hL hi (q := 2) (by decide) hl rfl rfl (z := 2) rfl dL_law_732 dL_law_733 dL_law_735 dL_law_736 dL_law_737 ?_
    refine g_arg hC hS hX hbl hbA hL hi (q := 3) (by decide) hl rfl rfl (z := 3) rfl dL_law_738 dL_law_739 dL_law_741 dL_law_742 dL_law_743 ?_
    refine k_X7_test hC hS hG hI ml_L_170 ⟨(Nat.le_of_ble_eq_true rfl), (Nat.le_of_ble_eq_true rfl)⟩ hl.1 (Nat.le_of_ble_eq_true rfl) dL_law_744 ⟨show cells + 4 + 0 ≤ 601024 by omega, show slots + 24 + 0 ≤ 7293034 by omega⟩ (fun h8 => absurd (h1.symm.trans h8) ht0) (fun r9 t8 h8 h9 H locs hG hS => ?_)
    obtain rfl : t8 = t9 := h8.symm.trans h1
    refine o_istore hx hb dL_law_747 hl (by decide) rfl (fun ls hl => ?_)
    refine o_aload_n hx hb dL_law_749 hl rfl ?_
    refine k_X7_thrown hC hS hG trivial ml_L_144 ⟨(Nat.le_of_ble_eq_true rfl), (Nat.le_of_ble_eq_true rfl)⟩ hl.1 (Nat.le_of_ble_eq_true rfl) dL_law_750 ⟨show cells + 4 + 0 + 0 ≤ 601024 by omega, show slots + 24 + 0 + 0 ≤ 7293034 by omega⟩ ?_
    refine o_iload hx hb dL_law_753 hl rfl ?_
    refine lv_icmp_eq (tgt := 760) hx hb dL_law_755 (by decide) (fun _ => ?_) (fun h => absurd rfl h)
    refine o_iload hx hb dL_law_760 hl rfl ?_
    refine lv_if_ne (tgt := 777) hx hb dL_law_762 (by decide) (fun _ => ?_) (fun h => absurd h ht9)
    refine lv_goto (tgt := 2593) hx hb dL_law_777 (by decide) ?_
    refine W.widen (k := cells + 9) (n := slots + 56) (by omega) (by omega) ?_
    exact k1 _ _ _ _ hG hS (LW_no hl)
set_option maxHeartbeats 4000000 in
set_option maxRecDepth 100000 in
theorem q_status {p : Program} {l : Launch} {e : Env} {s : State} {m : MethodId} {args : Array Value} {below : List Frame} {meth : Method} {c : Code} {H : Heap} {locs : List Loc} {cells slots : Nat} {Q : State → Prop} {ls : Array Slot} {D : va_G} {cy : Nat → ClassId} {sa : Nat → Nat} {de B : Nat} {ad : Ad} {S : St} {n : Nat → Nat} {th : Int32} {f : Nat → Int64} {g9 : Nat → UInt64} {b L : Nat} {xs : Nat → Int32} {j : Nat} (hfl : l.stackTraces = false) (hC : Cx p m c cL_law 9 s args RL D cy sa de B) (hS : va_S (AB B) s.heap H locs) (hX : va_X b L xs s s.heap) (hbl : b < s.heap.size) (hbA : ¬ AB B b) (hL : L ≤ 2560) (hi : 5 * j + 4 < L) (hl : lo ls 9 (LW b ad (nI (5 * j)) none none none)) (hG : GW D B ad (Vw cy de ad S n S n th (Xl cy f g9)) H) (hI : Inv S n) (hroom : cells + 9 ≤ 601024 ∧ slots + 56 ≤ 7293034) (k0 : cd_ath n (xs (5 * j + 1)) = 0 → ∀ (ad9 : Ad) (f2 : Nat → Int64) (g2 : Nat → UInt64) (H1 : Heap) (locs1 : List Loc) (ls1 : Array Slot), GW D B ad9 (Vw cy de ad9 S n S n 0 (Xl cy f2 g2)) H1 → va_S (AB B) s.heap H1 locs1 → lo ls1 9 (LW b ad9 (nI (5 * j)) none none none) → W p l e room_1 s m args below meth c H1 locs1 (cells + 9) (slots + 56) Q (F0 m 2593 ls1 [])) (k1 : ∀ (th9 : Int32) (H1 : Heap) (locs1 : List Loc) (ls1 : Array Slot), GW D B ad (Vw cy de ad S n S n th9 (Xl cy f g9)) H1 → va_S (AB B) s.heap H1 locs1 → lo ls1 9 (LW b ad (nI (5 * j)) none none none) → W p l e room_1 s m args below meth c H1 locs1 (cells + 9) (slots + 56) Q (F0 m 2593 ls1 [])) : W p l e room_1 s m args below meth c H locs cells slots Q (F0 m 780 ls []) := by
  have hx := hC.x
  have hb := hC.b
  refine o_aload_n hx hb dL_law_780 hl rfl ?_
  refine g_arg hC hS hX hbl hbA hL hi (q := 1) (by decide) hl rfl rfl (z := 1) rfl dL_law_781 dL_law_782 dL_law_784 dL_law_785 dL_law_786 ?_
  refine o_aload_n hx hb dL_law_787 hl rfl ?_
  refine k_L_status hfl hC hS hG hI ml_L_171 ⟨(Nat.le_of_ble_eq_true rfl), (Nat.le_of_ble_eq_true rfl)⟩ hl.1 (Nat.le_of_ble_eq_true rfl) dL_law_788 ⟨show cells + 1 ≤ 601024 by omega, show slots + 6 ≤ 7293034 by omega⟩ (fun h0 ad9 H locs hA hG hS => ?_) (fun t9 ht4 ht0 h1 H locs hG hS => ?_)
  · have hl := LW_ag hA hl
    refine o_istore hx hb dL_law_791 hl (by decide) rfl (fun ls hl => ?_)
    refine o_aload_n hx hb dL_law_793 hl rfl ?_
    refine g_arg hC hS hX hbl hbA hL hi (q := 1) (by decide) hl rfl rfl (z := 1) rfl dL_law_794 dL_law_795 dL_law_797 dL_law_798 dL_law_799 ?_
    refine k_X7_status hC hS hG hI ml_L_173 ⟨(Nat.le_of_ble_eq_true rfl), (Nat.le_of_ble_eq_true rfl)⟩ hl.1 (Nat.le_of_ble_eq_true rfl) dL_law_800 ⟨show cells + 1 + 0 ≤ 601024 by omega, show slots + 6 + 0 ≤ 7293034 by omega⟩ (fun _ H locs hG hS => ?_) (fun _ t8 h8 h9 => absurd (h8.symm.trans h0) h9)
    refine o_istore hx hb dL_law_803 hl (by decide) rfl (fun ls hl => ?_)
    refine o_aload_n hx hb dL_law_805 hl rfl ?_
    refine k_X7_thrown hC hS hG trivial ml_L_144 ⟨(Nat.le_of_ble_eq_true rfl), (Nat.le_of_ble_eq_true rfl)⟩ hl.1 (Nat.le_of_ble_eq_true rfl) dL_law_806 ⟨show cells + 1 + 0 + 0 ≤ 601024 by omega, show slots + 6 + 0 + 0 ≤ 7293034 by omega⟩ ?_
    refine o_iload hx hb dL_law_809 hl rfl ?_
    refine lv_icmp_eq (tgt := 816) hx hb dL_law_811 (by decide) (fun _ => ?_) (fun h => absurd rfl h)
    refine o_iload hx hb dL_law_816 hl rfl ?_
    refine lv_if_ne (tgt := 833) hx hb dL_law_818 (by decide) (fun h => absurd rfl h) (fun _ => ?_)
    refine o_aload_n hx hb dL_law_821 hl rfl ?_
    refine lv_iconst (v := 0) hx hb dL_law_822 (by decide) ?_
    refine g_lald hC hG V_out 0 rfl (by decide) (by decide) dL_law_823 ?_
    refine bl_0 (x := (Int32.toInt64 (S 9 (ci (xs (5 * j + 1))) 0))) pk_uLs.symm ?_
    refine o_iload hx hb dL_law_824 hl rfl ?_
    refine lv_i2l hx hb dL_law_826 rfl ?_
    refine lv_lcmpE hx hb dL_law_827 ?_
    refine lv_if_eq (tgt := 833) hx hb dL_law_828 (by decide) (fun _ => ?_) (fun h => absurd rfl h)
    refine lv_goto (tgt := 2593) hx hb dL_law_833 (by decide) ?_
    refine W.widen (k := cells + 9) (n := slots + 56) (by omega) (by omega) ?_
    exact k0 h0 ad9 _ _ _ _ _ hG hS (LW_no hl)
  · have ht9 := nI_4 ht4 ht0
    refine o_istore hx hb dL_law_791 hl (by decide) rfl (fun ls hl => ?_)
    refine o_aload_n hx hb dL_law_793 hl rfl ?_
    refine g_arg hC hS hX hbl hbA hL hi (q := 1) (by decide) hl rfl rfl (z := 1) rfl dL_law_794 dL_law_795 dL_law_797 dL_law_798 dL_law_799 ?_
    refine k_X7_status hC hS hG hI ml_L_173 ⟨(Nat.le_of_ble_eq_true rfl), (Nat.le_of_ble_eq_true rfl)⟩ hl.1 (Nat.le_of_ble_eq_true rfl) dL_law_800 ⟨show cells + 1 + 0 ≤ 601024 by omega, show slots + 6 + 0 ≤ 7293034 by omega⟩ (fun h8 => absurd (h1.symm.trans h8) ht0) (fun r9 t8 h8 h9 H locs hG hS => ?_)
    obtain rfl : t8 = t9 := h8.symm.trans h1
    refine o_istore hx hb dL_law_803 hl (by decide) rfl (fun ls hl => ?_)
    refine o_aload_n hx hb dL_law_805 hl rfl ?_
    refine k_X7_thrown hC hS hG trivial ml_L_144 ⟨(Nat.le_of_ble_eq_true rfl), (Nat.le_of_ble_eq_true rfl)⟩ hl.1 (Nat.le_of_ble_eq_true rfl) dL_law_806 ⟨show cells + 1 + 0 + 0 ≤ 601024 by omega, show slots + 6 + 0 + 0 ≤ 7293034 by omega⟩ ?_
    refine o_iload hx hb dL_law_809 hl rfl ?_
    refine lv_icmp_eq (tgt := 816) hx hb dL_law_811 (by decide) (fun _ => ?_) (fun h => absurd rfl h)
    refine o_iload hx hb dL_law_816 hl rfl ?_
    refine lv_if_ne (tgt := 833) hx hb dL_law_818 (by decide) (fun _ => ?_) (fun h => absurd h ht9)
    refine lv_goto (tgt := 2593) hx hb dL_law_833 (by decide) ?_
    refine W.widen (k := cells + 9) (n := slots + 56) (by omega) (by omega) ?_
    exact k1 _ _ _ _ hG hS (LW_no hl)
set_option maxHeartbeats 4000000 in
set_option maxRecDepth 100000 in
theorem q_classOf {p : Program} {l : Launch} {e : Env} {s : State} {m : MethodId} {args : Array Value} {below : List Frame} {meth : Method} {c : Code} {H : Heap} {locs : List Loc} {cells slots : Nat} {Q : State → Prop} {ls : Array Slot} {D : va_G} {cy : Nat → ClassId} {sa : Nat → Nat} {de B : Nat} {ad : Ad} {S : St} {n : Nat → Nat} {th : Int32} {f : Nat → Int64} {g9 : Nat → UInt64} {b L : Nat} {xs : Nat → Int32} {j : Nat} (hfl : l.stackTraces = false) (hC : Cx p m c cL_law 9 s args RL D cy sa de B) (hS : va_S (AB B) s.heap H locs) (hX : va_X b L xs s s.heap) (hbl : b < s.heap.size) (hbA : ¬ AB B b) (hL : L ≤ 2560) (hi : 5 * j + 4 < L) (hl : lo ls 9 (LW b ad (nI (5 * j)) none none none)) (hG : GW D B ad (Vw cy de ad S n S n th (Xl cy f g9)) H) (hI : Inv S n) (hroom : cells + 9 ≤ 601024 ∧ slots + 56 ≤ 7293034) (k0 : cd_ath n (xs (5 * j + 1)) = 0 → ∀ (ad9 : Ad) (f2 : Nat → Int64) (g2 : Nat → UInt64) (H1 : Heap) (locs1 : List Loc) (ls1 : Array Slot), GW D B ad9 (Vw cy de ad9 S n S n 0 (Xl cy f2 g2)) H1 → va_S (AB B) s.heap H1 locs1 → lo ls1 9 (LW b ad9 (nI (5 * j)) none none none) → W p l e room_1 s m args below meth c H1 locs1 (cells + 9) (slots + 56) Q (F0 m 2593 ls1 [])) (k1 : ∀ (th9 : Int32) (H1 : Heap) (locs1 : List Loc) (ls1 : Array Slot), GW D B ad (Vw cy de ad S n S n th9 (Xl cy f g9)) H1 → va_S (AB B) s.heap H1 locs1 → lo ls1 9 (LW b ad (nI (5 * j)) none none none) → W p l e room_1 s m args below meth c H1 locs1 (cells + 9) (slots + 56) Q (F0 m 2593 ls1 [])) : W p l e room_1 s m args below meth c H locs cells slots Q (F0 m 836 ls []) := by
  have hx := hC.x
  have hb := hC.b
  refine o_aload_n hx hb dL_law_836 hl rfl ?_
  refine g_arg hC hS hX hbl hbA hL hi (q := 1) (by decide) hl rfl rfl (z := 1) rfl dL_law_837 dL_law_838 dL_law_840 dL_law_841 dL_law_842 ?_
  refine o_aload_n hx hb dL_law_843 hl rfl ?_
  refine k_L_classOf hfl hC hS hG hI ml_L_174 ⟨(Nat.le_of_ble_eq_true rfl), (Nat.le_of_ble_eq_true rfl)⟩ hl.1 (Nat.le_of_ble_eq_true rfl) dL_law_844 ⟨show cells + 1 ≤ 601024 by omega, show slots + 6 ≤ 7293034 by omega⟩ (fun h0 ad9 H locs hA hG hS => ?_) (fun t9 ht4 ht0 h1 H locs hG hS => ?_)
  · have hl := LW_ag hA hl
    refine o_istore hx hb dL_law_847 hl (by decide) rfl (fun ls hl => ?_)
    refine o_aload_n hx hb dL_law_849 hl rfl ?_
    refine g_arg hC hS hX hbl hbA hL hi (q := 1) (by decide) hl rfl rfl (z := 1) rfl dL_law_850 dL_law_851 dL_law_853 dL_law_854 dL_law_855 ?_
    refine k_X7_classOf hC hS hG hI ml_L_176 ⟨(Nat.le_of_ble_eq_true rfl), (Nat.le_of_ble_eq_true rfl)⟩ hl.1 (Nat.le_of_ble_eq_true rfl) dL_law_856 ⟨show cells + 1 + 0 ≤ 601024 by omega, show slots + 6 + 0 ≤ 7293034 by omega⟩ (fun _ H locs hG hS => ?_) (fun _ t8 h8 h9 => absurd (h8.symm.trans h0) h9)
    refine o_istore hx hb dL_law_859 hl (by decide) rfl (fun ls hl => ?_)
    refine o_aload_n hx hb dL_law_861 hl rfl ?_
    refine k_X7_thrown hC hS hG trivial ml_L_144 ⟨(Nat.le_of_ble_eq_true rfl), (Nat.le_of_ble_eq_true rfl)⟩ hl.1 (Nat.le_of_ble_eq_true rfl) dL_law_862 ⟨show cells + 1 + 0 + 0 ≤ 601024 by omega, show slots + 6 + 0 + 0 ≤ 7293034 by omega⟩ ?_
    refine o_iload hx hb dL_law_865 hl rfl ?_
    refine lv_icmp_eq (tgt := 872) hx hb dL_law_867 (by decide) (fun _ => ?_) (fun h => absurd rfl h)
    refine o_iload hx hb dL_law_872 hl rfl ?_
    refine lv_if_ne (tgt := 889) hx hb dL_law_874 (by decide) (fun h => absurd rfl h) (fun _ => ?_)
    refine o_aload_n hx hb dL_law_877 hl rfl ?_
    refine lv_iconst (v := 0) hx hb dL_law_878 (by decide) ?_
    refine g_lald hC hG V_out 0 rfl (by decide) (by decide) dL_law_879 ?_
    refine bl_0 (x := (Int32.toInt64 (S 10 (ci (xs (5 * j + 1))) 0))) pk_uLs.symm ?_
    refine o_iload hx hb dL_law_880 hl rfl ?_
    refine lv_i2l hx hb dL_law_882 rfl ?_
    refine lv_lcmpE hx hb dL_law_883 ?_
    refine lv_if_eq (tgt := 889) hx hb dL_law_884 (by decide) (fun _ => ?_) (fun h => absurd rfl h)
    refine lv_goto (tgt := 2593) hx hb dL_law_889 (by decide) ?_
    refine W.widen (k := cells + 9) (n := slots + 56) (by omega) (by omega) ?_
    exact k0 h0 ad9 _ _ _ _ _ hG hS (LW_no hl)
  · have ht9 := nI_4 ht4 ht0
    refine o_istore hx hb dL_law_847 hl (by decide) rfl (fun ls hl => ?_)
    refine o_aload_n hx hb dL_law_849 hl rfl ?_
    refine g_arg hC hS hX hbl hbA hL hi (q := 1) (by decide) hl rfl rfl (z := 1) rfl dL_law_850 dL_law_851 dL_law_853 dL_law_854 dL_law_855 ?_
    refine k_X7_classOf hC hS hG hI ml_L_176 ⟨(Nat.le_of_ble_eq_true rfl), (Nat.le_of_ble_eq_true rfl)⟩ hl.1 (Nat.le_of_ble_eq_true rfl) dL_law_856 ⟨show cells + 1 + 0 ≤ 601024 by omega, show slots + 6 + 0 ≤ 7293034 by omega⟩ (fun h8 => absurd (h1.symm.trans h8) ht0) (fun r9 t8 h8 h9 H locs hG hS => ?_)
    obtain rfl : t8 = t9 := h8.symm.trans h1
    refine o_istore hx hb dL_law_859 hl (by decide) rfl (fun ls hl => ?_)
    refine o_aload_n hx hb dL_law_861 hl rfl ?_
    refine k_X7_thrown hC hS hG trivial ml_L_144 ⟨(Nat.le_of_ble_eq_true rfl), (Nat.le_of_ble_eq_true rfl)⟩ hl.1 (Nat.le_of_ble_eq_true rfl) dL_law_862 ⟨show cells + 1 + 0 + 0 ≤ 601024 by omega, show slots + 6 + 0 + 0 ≤ 7293034 by omega⟩ ?_
    refine o_iload hx hb dL_law_865 hl rfl ?_
    refine lv_icmp_eq (tgt := 872) hx hb dL_law_867 (by decide) (fun _ => ?_) (fun h => absurd rfl h)
    refine o_iload hx hb dL_law_872 hl rfl ?_
    refine lv_if_ne (tgt := 889) hx hb dL_law_874 (by decide) (fun _ => ?_) (fun h => absurd h ht9)
    refine lv_goto (tgt := 2593) hx hb dL_law_889 (by decide) ?_
    refine W.widen (k := cells + 9) (n := slots + 56) (by omega) (by omega) ?_
    exact k1 _ _ _ _ hG hS (LW_no hl)
set_option maxHeartbeats 4000000 in
set_option maxRecDepth 100000 in
theorem q_watch {p : Program} {l : Launch} {e : Env} {s : State} {m : MethodId} {args : Array Value} {below : List Frame} {meth : Method} {c : Code} {H : Heap} {locs : List Loc} {cells slots : Nat} {Q : State → Prop} {ls : Array Slot} {D : va_G} {cy : Nat → ClassId} {sa : Nat → Nat} {de B : Nat} {ad : Ad} {S : St} {n : Nat → Nat} {th : Int32} {f : Nat → Int64} {g9 : Nat → UInt64} {b L : Nat} {xs : Nat → Int32} {j : Nat} (hfl : l.stackTraces = false) (hC : Cx p m c cL_law 9 s args RL D cy sa de B) (hS : va_S (AB B) s.heap H locs) (hX : va_X b L xs s s.heap) (hbl : b < s.heap.size) (hbA : ¬ AB B b) (hL : L ≤ 2560) (hi : 5 * j + 4 < L) (hl : lo ls 9 (LW b ad (nI (5 * j)) none none none)) (hG : GW D B ad (Vw cy de ad S n S n th (Xl cy f g9)) H) (hI : Inv S n) (hroom : cells + 9 ≤ 601024 ∧ slots + 56 ≤ 7293034) (k0 : cd_watch S n (xs (5 * j + 1)) = 0 → ∀ (ad9 : Ad) (f2 : Nat → Int64) (g2 : Nat → UInt64) (H1 : Heap) (locs1 : List Loc) (ls1 : Array Slot), GW D B ad9 (Vw cy de ad9 (exJ S n (ci (xs (5 * j + 1)))) n (exJ S n (ci (xs (5 * j + 1)))) n 0 (Xl cy f2 g2)) H1 → va_S (AB B) s.heap H1 locs1 → lo ls1 9 (LW b ad9 (nI (5 * j)) none none none) → W p l e room_1 s m args below meth c H1 locs1 (cells + 9) (slots + 56) Q (F0 m 2593 ls1 [])) (k1 : ∀ (th9 : Int32) (H1 : Heap) (locs1 : List Loc) (ls1 : Array Slot), GW D B ad (Vw cy de ad S n S n th9 (Xl cy f g9)) H1 → va_S (AB B) s.heap H1 locs1 → lo ls1 9 (LW b ad (nI (5 * j)) none none none) → W p l e room_1 s m args below meth c H1 locs1 (cells + 9) (slots + 56) Q (F0 m 2593 ls1 [])) : W p l e room_1 s m args below meth c H locs cells slots Q (F0 m 892 ls []) := by
  have hx := hC.x
  have hb := hC.b
  refine o_aload_n hx hb dL_law_892 hl rfl ?_
  refine g_arg hC hS hX hbl hbA hL hi (q := 1) (by decide) hl rfl rfl (z := 1) rfl dL_law_893 dL_law_894 dL_law_896 dL_law_897 dL_law_898 ?_
  refine o_aload_n hx hb dL_law_899 hl rfl ?_
  refine k_L_watch hfl hC hS hG hI ml_L_177 ⟨(Nat.le_of_ble_eq_true rfl), (Nat.le_of_ble_eq_true rfl)⟩ hl.1 (Nat.le_of_ble_eq_true rfl) dL_law_900 ⟨show cells + 2 ≤ 601024 by omega, show slots + 12 ≤ 7293034 by omega⟩ (fun h0 ad9 H locs hA hG hS => ?_) (fun t9 ht4 ht0 h1 H locs hG hS => ?_)
  · have hl := LW_ag hA hl
    refine o_istore hx hb dL_law_903 hl (by decide) rfl (fun ls hl => ?_)
    refine o_aload_n hx hb dL_law_905 hl rfl ?_
    refine g_arg hC hS hX hbl hbA hL hi (q := 1) (by decide) hl rfl rfl (z := 1) rfl dL_law_906 dL_law_907 dL_law_909 dL_law_910 dL_law_911 ?_
    refine k_X7_watch hC hS hG hI ml_L_179 ⟨(Nat.le_of_ble_eq_true rfl), (Nat.le_of_ble_eq_true rfl)⟩ hl.1 (Nat.le_of_ble_eq_true rfl) dL_law_912 ⟨show cells + 2 + 0 ≤ 601024 by omega, show slots + 12 + 0 ≤ 7293034 by omega⟩ (fun _ H locs hG hS => ?_) (fun _ t8 h8 h9 => absurd (h8.symm.trans h0) h9)
    refine o_istore hx hb dL_law_915 hl (by decide) rfl (fun ls hl => ?_)
    refine o_aload_n hx hb dL_law_917 hl rfl ?_
    refine k_X7_thrown hC hS hG trivial ml_L_144 ⟨(Nat.le_of_ble_eq_true rfl), (Nat.le_of_ble_eq_true rfl)⟩ hl.1 (Nat.le_of_ble_eq_true rfl) dL_law_918 ⟨show cells + 2 + 0 + 0 ≤ 601024 by omega, show slots + 12 + 0 + 0 ≤ 7293034 by omega⟩ ?_
    refine o_iload hx hb dL_law_921 hl rfl ?_
    refine lv_icmp_eq (tgt := 928) hx hb dL_law_923 (by decide) (fun _ => ?_) (fun h => absurd rfl h)
    refine o_iload hx hb dL_law_928 hl rfl ?_
    refine lv_if_ne (tgt := 945) hx hb dL_law_930 (by decide) (fun h => absurd rfl h) (fun _ => ?_)
    refine o_aload_n hx hb dL_law_933 hl rfl ?_
    refine lv_iconst (v := 0) hx hb dL_law_934 (by decide) ?_
    refine g_lald hC hG V_out 0 rfl (by decide) (by decide) dL_law_935 ?_
    refine bl_0 (x := (Int32.toInt64 (exJ S n (ci (xs (5 * j + 1))) 9 (ci (xs (5 * j + 1))) 0))) pk_uLs.symm ?_
    refine o_iload hx hb dL_law_936 hl rfl ?_
    refine lv_i2l hx hb dL_law_938 rfl ?_
    refine lv_lcmpE hx hb dL_law_939 ?_
    refine lv_if_eq (tgt := 945) hx hb dL_law_940 (by decide) (fun _ => ?_) (fun h => absurd rfl h)
    refine lv_goto (tgt := 2593) hx hb dL_law_945 (by decide) ?_
    refine W.widen (k := cells + 9) (n := slots + 56) (by omega) (by omega) ?_
    exact k0 h0 ad9 _ _ _ _ _ hG hS (LW_no hl)
  · have ht9 := nI_4 ht4 ht0
    refine o_istore hx hb dL_law_903 hl (by decide) rfl (fun ls hl => ?_)
    refine o_aload_n hx hb dL_law_905 hl rfl ?_
    refine g_arg hC hS hX hbl hbA hL hi (q := 1) (by decide) hl rfl rfl (z := 1) rfl dL_law_906 dL_law_907 dL_law_909 dL_law_910 dL_law_911 ?_
    refine k_X7_watch hC hS hG hI ml_L_179 ⟨(Nat.le_of_ble_eq_true rfl), (Nat.le_of_ble_eq_true rfl)⟩ hl.1 (Nat.le_of_ble_eq_true rfl) dL_law_912 ⟨show cells + 2 + 0 ≤ 601024 by omega, show slots + 12 + 0 ≤ 7293034 by omega⟩ (fun h8 => absurd (h1.symm.trans h8) ht0) (fun r9 t8 h8 h9 H locs hG hS => ?_)
    obtain rfl : t8 = t9 := h8.symm.trans h1
    refine o_istore hx hb dL_law_915 hl (by decide) rfl (fun ls hl => ?_)
    refine o_aload_n hx hb dL_law_917 hl rfl ?_
    refine k_X7_thrown hC hS hG trivial ml_L_144 ⟨(Nat.le_of_ble_eq_true rfl), (Nat.le_of_ble_eq_true rfl)⟩ hl.1 (Nat.le_of_ble_eq_true rfl) dL_law_918 ⟨show cells + 2 + 0 + 0 ≤ 601024 by omega, show slots + 12 + 0 + 0 ≤ 7293034 by omega⟩ ?_
    refine o_iload hx hb dL_law_921 hl rfl ?_
    refine lv_icmp_eq (tgt := 928) hx hb dL_law_923 (by decide) (fun _ => ?_) (fun h => absurd rfl h)
    refine o_iload hx hb dL_law_928 hl rfl ?_
    refine lv_if_ne (tgt := 945) hx hb dL_law_930 (by decide) (fun _ => ?_) (fun h => absurd h ht9)
    refine lv_goto (tgt := 2593) hx hb dL_law_945 (by decide) ?_
    refine W.widen (k := cells + 9) (n := slots + 56) (by omega) (by omega) ?_
    exact k1 _ _ _ _ hG hS (LW_no hl)
set_option maxHeartbeats 4000000 in
set_option maxRecDepth 100000 in
theorem q_protest {p : Program} {l : Launch} {e : Env} {s : State} {m : MethodId} {args : Array Value} {below : List Frame} {meth : Method} {c : Code} {H : Heap} {locs : List Loc} {cells slots : Nat} {Q : State → Prop} {ls : Array Slot} {D : va_G} {cy : Nat → ClassId} {sa : Nat → Nat} {de B : Nat} {ad : Ad} {S : St} {n : Nat → Nat} {th : Int32} {f : Nat → Int64} {g9 : Nat → UInt64} {b L : Nat} {xs : Nat → Int32} {j : Nat} (hfl : l.stackTraces = false) (hC : Cx p m c cL_law 9 s args RL D cy sa de B) (hS : va_S (AB B) s.heap H locs) (hX : va_X b L xs s s.heap) (hbl : b < s.heap.size) (hbA : ¬ AB B b) (hL : L ≤ 2560) (hi : 5 * j + 4 < L) (hl : lo ls 9 (LW b ad (nI (5 * j)) none none none)) (hG : GW D B ad (Vw cy de ad S n S n th (Xl cy f g9)) H) (hI : Inv S n) (hroom : cells + 9 ≤ 601024 ∧ slots + 56 ≤ 7293034) (k0 : cd_protest S n (xs (5 * j + 1)) (xs (5 * j + 2)) = 0 → ∀ (ad9 : Ad) (f2 : Nat → Int64) (g2 : Nat → UInt64) (H1 : Heap) (locs1 : List Loc) (ls1 : Array Slot), GW D B ad9 (Vw cy de ad9 (prS S n (ci (xs (5 * j + 1))) (ci (xs (5 * j + 2)))) n (prS S n (ci (xs (5 * j + 1))) (ci (xs (5 * j + 2)))) n 0 (Xl cy f2 g2)) H1 → va_S (AB B) s.heap H1 locs1 → lo ls1 9 (LW b ad9 (nI (5 * j)) none none none) → W p l e room_1 s m args below meth c H1 locs1 (cells + 9) (slots + 56) Q (F0 m 2593 ls1 [])) (k1 : ∀ (th9 : Int32) (H1 : Heap) (locs1 : List Loc) (ls1 : Array Slot), GW D B ad (Vw cy de ad S n S n th9 (Xl cy f g9)) H1 → va_S (AB B) s.heap H1 locs1 → lo ls1 9 (LW b ad (nI (5 * j)) none none none) → W p l e room_1 s m args below meth c H1 locs1 (cells + 9) (slots + 56) Q (F0 m 2593 ls1 [])) : W p l e room_1 s m args below meth c H locs cells slots Q (F0 m 948 ls []) := by
  have hx := hC.x
  have hb := hC.b
  refine o_aload_n hx hb dL_law_948 hl rfl ?_
  refine g_arg hC hS hX hbl hbA hL hi (q := 1) (by decide) hl rfl rfl (z := 1) rfl dL_law_949 dL_law_950 dL_law_952 dL_law_953 dL_law_954 ?_
  refine g_arg hC hS hX hbl hbA hL hi (q := 2) (by decide) hl rfl rfl (z := 2) rfl dL_law_955 dL_law_956 dL_law_958 dL_law_959 dL_law_960 ?_
  refine o_aload_n hx hb dL_law_961 hl rfl ?_
  refine k_L_protest hfl hC hS hG hI ml_L_180 ⟨(Nat.le_of_ble_eq_true rfl), (Nat.le_of_ble_eq_true rfl)⟩ hl.1 (Nat.le_of_ble_eq_true rfl) dL_law_962 ⟨show cells + 3 ≤ 601024 by omega, show slots + 18 ≤ 7293034 by omega⟩ (fun h0 ad9 H locs hA hG hS => ?_) (fun t9 ht4 ht0 h1 H locs hG hS => ?_)
  · have hl := LW_ag hA hl
    refine o_istore hx hb dL_law_965 hl (by decide) rfl (fun ls hl => ?_)
    refine o_aload_n hx hb dL_law_967 hl rfl ?_
    refine g_arg hC hS hX hbl hbA hL hi (q := 1) (by decide) hl rfl rfl (z := 1) rfl dL_law_968 dL_law_969 dL_law_971 dL_law_972 dL_law_973 ?_
    refine g_arg hC hS hX hbl hbA hL hi (q := 2) (by decide) hl rfl rfl (z := 2) rfl dL_law_974 dL_law_975 dL_law_977 dL_law_978 dL_law_979 ?_
    refine k_X7_protest hC hS hG hI ml_L_182 ⟨(Nat.le_of_ble_eq_true rfl), (Nat.le_of_ble_eq_true rfl)⟩ hl.1 (Nat.le_of_ble_eq_true rfl) dL_law_980 ⟨show cells + 3 + 0 ≤ 601024 by omega, show slots + 18 + 0 ≤ 7293034 by omega⟩ (fun _ H locs hG hS => ?_) (fun _ t8 h8 h9 => absurd (h8.symm.trans h0) h9)
    refine o_istore hx hb dL_law_983 hl (by decide) rfl (fun ls hl => ?_)
    refine o_aload_n hx hb dL_law_985 hl rfl ?_
    refine k_X7_thrown hC hS hG trivial ml_L_144 ⟨(Nat.le_of_ble_eq_true rfl), (Nat.le_of_ble_eq_true rfl)⟩ hl.1 (Nat.le_of_ble_eq_true rfl) dL_law_986 ⟨show cells + 3 + 0 + 0 ≤ 601024 by omega, show slots + 18 + 0 + 0 ≤ 7293034 by omega⟩ ?_
    refine o_iload hx hb dL_law_989 hl rfl ?_
    refine lv_icmp_eq (tgt := 996) hx hb dL_law_991 (by decide) (fun _ => ?_) (fun h => absurd rfl h)
    refine o_iload hx hb dL_law_996 hl rfl ?_
    refine lv_if_ne (tgt := 1020) hx hb dL_law_998 (by decide) (fun h => absurd rfl h) (fun _ => ?_)
    refine o_aload_n hx hb dL_law_1001 hl rfl ?_
    refine lv_iconst (v := 0) hx hb dL_law_1002 (by decide) ?_
    refine g_lald hC hG V_out 0 rfl (by decide) (by decide) dL_law_1003 ?_
    refine bl_0 (x := (if (vl_protest S n (ci (xs (5 * j + 2)))) = 0 then (0 : Int64) else 1)) pk_uLs.symm ?_
    refine o_iload hx hb dL_law_1004 hl rfl ?_
    refine lv_if_eq (tgt := 1013) hx hb dL_law_1006 (by decide) (fun h8 => ?_) (fun h8 => ?_)
    · refine lv_lconst hx hb dL_law_1013 rfl ?_
      refine bl_1 (if_pos h8).symm ?_
      refine lv_lcmpE hx hb dL_law_1014 ?_
      refine lv_if_eq (tgt := 1020) hx hb dL_law_1015 (by decide) (fun _ => ?_) (fun h => absurd rfl h)
      refine lv_goto (tgt := 2593) hx hb dL_law_1020 (by decide) ?_
      refine W.widen (k := cells + 9) (n := slots + 56) (by omega) (by omega) ?_
      exact k0 h0 ad9 _ _ _ _ _ hG hS (LW_no hl)
    · refine lv_lconst hx hb dL_law_1009 rfl ?_
      refine lv_goto (tgt := 1014) hx hb dL_law_1010 (by decide) ?_
      refine bl_1 (if_neg h8).symm ?_
      refine lv_lcmpE hx hb dL_law_1014 ?_
      refine lv_if_eq (tgt := 1020) hx hb dL_law_1015 (by decide) (fun _ => ?_) (fun h => absurd rfl h)
      refine lv_goto (tgt := 2593) hx hb dL_law_1020 (by decide) ?_
      refine W.widen (k := cells + 9) (n := slots + 56) (by omega) (by omega) ?_
      exact k0 h0 ad9 _ _ _ _ _ hG hS (LW_no hl)
  · have ht9 := nI_4 ht4 ht0
    refine o_istore hx hb dL_law_965 hl (by decide) rfl (fun ls hl => ?_)
    refine o_aload_n hx hb dL_law_967 hl rfl ?_
    refine g_arg hC hS hX hbl hbA hL hi (q := 1) (by decide) hl rfl rfl (z := 1) rfl dL_law_968 dL_law_969 dL_law_971 dL_law_972 dL_law_973 ?_
    refine g_arg hC hS hX hbl hbA hL hi (q := 2) (by decide) hl rfl rfl (z := 2) rfl dL_law_974 dL_law_975 dL_law_977 dL_law_978 dL_law_979 ?_
    refine k_X7_protest hC hS hG hI ml_L_182 ⟨(Nat.le_of_ble_eq_true rfl), (Nat.le_of_ble_eq_true rfl)⟩ hl.1 (Nat.le_of_ble_eq_true rfl) dL_law_980 ⟨show cells + 3 + 0 ≤ 601024 by omega, show slots + 18 + 0 ≤ 7293034 by omega⟩ (fun h8 => absurd (h1.symm.trans h8) ht0) (fun r9 t8 h8 h9 H locs hG hS => ?_)
    obtain rfl : t8 = t9 := h8.symm.trans h1
    refine o_istore hx hb dL_law_983 hl (by decide) rfl (fun ls hl => ?_)
    refine o_aload_n hx hb dL_law_985 hl rfl ?_
    refine k_X7_thrown hC hS hG trivial ml_L_144 ⟨(Nat.le_of_ble_eq_true rfl), (Nat.le_of_ble_eq_true rfl)⟩ hl.1 (Nat.le_of_ble_eq_true rfl) dL_law_986 ⟨show cells + 3 + 0 + 0 ≤ 601024 by omega, show slots + 18 + 0 + 0 ≤ 7293034 by omega⟩ ?_
    refine o_iload hx hb dL_law_989 hl rfl ?_
    refine lv_icmp_eq (tgt := 996) hx hb dL_law_991 (by decide) (fun _ => ?_) (fun h => absurd rfl h)
    refine o_iload hx hb dL_law_996 hl rfl ?_
    refine lv_if_ne (tgt := 1020) hx hb dL_law_998 (by decide) (fun _ => ?_) (fun h => absurd h ht9)
    refine lv_goto (tgt := 2593) hx hb dL_law_1020 (by decide) ?_
    refine W.widen (k := cells + 9) (n := slots + 56) (by omega) (by omega) ?_
    exact k1 _ _ _ _ hG hS (LW_no hl)
set_option maxHeartbeats 4000000 in
set_option maxRecDepth 100000 in
theorem q_money {p : Program} {l : Launch} {e : Env} {s : State} {m : MethodId} {args : Array Value} {below : List Frame} {meth : Method} {c : Code} {H : Heap} {locs : List Loc} {cells slots : Nat} {Q : State → Prop} {ls : Array Slot} {D : va_G} {cy : Nat → ClassId} {sa : Nat → Nat} {de B : Nat} {ad : Ad} {S : St} {n : Nat → Nat} {th : Int32} {f : Nat → Int64} {g9 : Nat → UInt64} {b L : Nat} {xs : Nat → Int32} {j : Nat} (hfl : l.stackTraces = false) (hC : Cx p m c cL_law 9 s args RL D cy sa de B) (hS : va_S (AB B) s.heap H locs) (hX : va_X b L xs s s.heap) (hbl : b < s.heap.size) (hbA : ¬ AB B b) (hL : L ≤ 2560) (hi : 5 * j + 4 < L) (hl : lo ls 9 (LW b ad (nI (5 * j)) none none none)) (hG : GW D B ad (Vw cy de ad S n S n th (Xl cy f g9)) H) (hI : Inv S n) (hroom : cells + 9 ≤ 601024 ∧ slots + 56 ≤ 7293034) (k0 : cd_money (xs (5 * j + 1)) = 0 → ∀ (ad9 : Ad) (f2 : Nat → Int64) (g2 : Nat → UInt64) (H1 : Heap) (locs1 : List Loc) (ls1 : Array Slot), GW D B ad9 (Vw cy de ad9 S n S n 0 (Xl cy f2 g2)) H1 → va_S (AB B) s.heap H1 locs1 → lo ls1 9 (LW b ad9 (nI (5 * j)) none none none) → W p l e room_1 s m args below meth c H1 locs1 (cells + 9) (slots + 56) Q (F0 m 2593 ls1 [])) (k1 : ∀ (th9 : Int32) (H1 : Heap) (locs1 : List Loc) (ls1 : Array Slot), GW D B ad (Vw cy de ad S n S n th9 (Xl cy f g9)) H1 → va_S (AB B) s.heap H1 locs1 → lo ls1 9 (LW b ad (nI (5 * j)) none none none) → W p l e room_1 s m args below meth c H1 locs1 (cells + 9) (slots + 56) Q (F0 m 2593 ls1 [])) : W p l e room_1 s m args below meth c H locs cells slots Q (F0 m 1023 ls []) := by
  have hx := hC.x
  have hb := hC.b
  refine o_aload_n hx hb dL_law_1023 hl rfl ?_
  refine g_arg hC hS hX hbl hbA hL hi (q := 1) (by decide) hl rfl rfl (z := 1) rfl dL_law_1024 dL_law_1025 dL_law_1027 dL_law_1028 dL_law_1029 ?_
  refine o_aload_n hx hb dL_law_1030 hl rfl ?_
  refine k_L_money hfl hC hS hG hI ml_L_183 ⟨(Nat.le_of_ble_eq_true rfl), (Nat.le_of_ble_eq_true rfl)⟩ hl.1 (Nat.le_of_ble_eq_true rfl) dL_law_1031 ⟨show cells + 1 ≤ 601024 by omega, show slots + 6 ≤ 7293034 by omega⟩ (fun h0 ad9 H locs hA hG hS => ?_) (fun t9 ht4 ht0 h1 H locs hG hS => ?_)
  · have hl := LW_ag hA hl
    refine o_istore hx hb dL_law_1034 hl (by decide) rfl (fun ls hl => ?_)
    refine o_aload_n hx hb dL_law_1036 hl rfl ?_
    refine g_arg hC hS hX hbl hbA hL hi (q := 1) (by decide) hl rfl rfl (z := 1) rfl dL_law_1037 dL_law_1038 dL_law_1040 dL_law_1041 dL_law_1042 ?_
    refine k_X7_money hC hS hG hI ml_L_185 ⟨(Nat.le_of_ble_eq_true rfl), (Nat.le_of_ble_eq_true rfl)⟩ hl.1 (Nat.le_of_ble_eq_true rfl) dL_law_1043 ⟨show cells + 1 + 0 ≤ 601024 by omega, show slots + 6 + 0 ≤ 7293034 by omega⟩ (fun _ H locs hG hS => ?_) (fun _ t8 h8 h9 => absurd (h8.symm.trans h0) h9)
    refine o_istore hx hb dL_law_1046 hl (by decide) rfl (fun ls hl => ?_)
    refine o_aload_n hx hb dL_law_1048 hl rfl ?_
    refine k_X7_thrown hC hS hG trivial ml_L_144 ⟨(Nat.le_of_ble_eq_true rfl), (Nat.le_of_ble_eq_true rfl)⟩ hl.1 (Nat.le_of_ble_eq_true rfl) dL_law_1049 ⟨show cells + 1 + 0 + 0 ≤ 601024 by omega, show slots + 6 + 0 + 0 ≤ 7293034 by omega⟩ ?_
    refine o_iload hx hb dL_law_1052 hl rfl ?_
    refine lv_icmp_eq (tgt := 1059) hx hb dL_law_1054 (by decide) (fun _ => ?_) (fun h => absurd rfl h)
    refine o_iload hx hb dL_law_1059 hl rfl ?_
    refine lv_if_ne (tgt := 1076) hx hb dL_law_1061 (by decide) (fun h => absurd rfl h) (fun _ => ?_)
    refine o_aload_n hx hb dL_law_1064 hl rfl ?_
    refine lv_iconst (v := 0) hx hb dL_law_1065 (by decide) ?_
    refine g_lald hC hG V_out 0 rfl (by decide) (by decide) dL_law_1066 ?_
    refine bl_0 (x := (Int32.toInt64 (S 15 (ci (xs (5 * j + 1))) 0))) pk_uLs.symm ?_
    refine o_iload hx hb dL_law_1067 hl rfl ?_
    refine lv_i2l hx hb dL_law_1069 rfl ?_
    refine lv_lcmpE hx hb dL_law_1070 ?_
    refine lv_if_eq (tgt := 1076) hx hb dL_law_1071 (by decide) (fun _ => ?_) (fun h => absurd rfl h)
    refine lv_goto (tgt := 2593) hx hb dL_law_1076 (by decide) ?_
    refine W.widen (k := cells + 9) (n := slots + 56) (by omega) (by omega) ?_
    exact k0 h0 ad9 _ _ _ _ _ hG hS (LW_no hl)
  · have ht9 := nI_4 ht4 ht0
    refine o_istore hx hb dL_law_1034 hl (by decide) rfl (fun ls hl => ?_)
    refine o_aload_n hx hb dL_law_1036 hl rfl ?_
    refine g_arg hC hS hX hbl hbA hL hi (q := 1) (by decide) hl rfl rfl (z := 1) rfl dL_law_1037 dL_law_1038 dL_law_1040 dL_law_1041 dL_law_1042 ?_
    refine k_X7_money hC hS hG hI ml_L_185 ⟨(Nat.le_of_ble_eq_true rfl), (Nat.le_of_ble_eq_true rfl)⟩ hl.1 (Nat.le_of_ble_eq_true rfl) dL_law_1043 ⟨show cells + 1 + 0 ≤ 601024 by omega, show slots + 6 + 0 ≤ 7293034 by omega⟩ (fun h8 => absurd (h1.symm.trans h8) ht0) (fun r9 t8 h8 h9 H locs hG hS => ?_)
    obtain rfl : t8 = t9 := h8.symm.trans h1
    refine o_istore hx hb dL_law_1046 hl (by decide) rfl (fun ls hl => ?_)
    refine o_aload_n hx hb dL_law_1048 hl rfl ?_
    refine k_X7_thrown hC hS hG trivial ml_L_144 ⟨(Nat.le_of_ble_eq_true rfl), (Nat.le_of_ble_eq_true rfl)⟩ hl.1 (Nat.le_of_ble_eq_true rfl) dL_law_1049 ⟨show cells + 1 + 0 + 0 ≤ 601024 by omega, show slots + 6 + 0 + 0 ≤ 7293034 by omega⟩ ?_
    refine o_iload hx hb dL_law_1052 hl rfl ?_
    refine lv_icmp_eq (tgt := 1059) hx hb dL_law_1054 (by decide) (fun _ => ?_) (fun h => absurd rfl h)
    refine o_iload hx hb dL_law_1059 hl rfl ?_
    refine lv_if_ne (tgt := 1076) hx hb dL_law_1061 (by decide) (fun _ => ?_) (fun h => absurd h ht9)
    refine lv_goto (tgt := 2593) hx hb dL_law_1076 (by decide) ?_
    refine W.widen (k := cells + 9) (n := slots + 56) (by omega) (by omega) ?_
    exact k1 _ _ _ _ hG hS (LW_no hl)
set_option maxHeartbeats 4000000 in
set_option maxRecDepth 100000 in
theorem q_border {p : Program} {l : Launch} {e : Env} {s : State} {m : MethodId} {args : Array Value} {below : List Frame} {meth : Method} {c : Code} {H : Heap} {locs : List Loc} {cells slots : Nat} {Q : State → Prop} {ls : Array Slot} {D : va_G} {cy : Nat → ClassId} {sa : Nat → Nat} {de B : Nat} {ad : Ad} {S : St} {n : Nat → Nat} {th : Int32} {f : Nat → Int64} {g9 : Nat → UInt64} {b L : Nat} {xs : Nat → Int32} {j : Nat} (hfl : l.stackTraces = false) (hC : Cx p m c cL_law 9 s args RL D cy sa de B) (hS : va_S (AB B) s.heap H locs) (hX : va_X b L xs s s.heap) (hbl : b < s.heap.size) (hbA : ¬ AB B b) (hL : L ≤ 2560) (hi : 5 * j + 4 < L) (hl : lo ls 9 (LW b ad (nI (5 * j)) none none none)) (hG : GW D B ad (Vw cy de ad S n S n th (Xl cy f g9)) H) (hI : Inv S n) (hroom : cells + 9 ≤ 601024 ∧ slots + 56 ≤ 7293034) (k0 : cd_border n (xs (5 * j + 1)) (xs (5 * j + 2)) (xs (5 * j + 3)) = 0 → ∀ (ad9 : Ad) (f2 : Nat → Int64) (g2 : Nat → UInt64) (H1 : Heap) (locs1 : List Loc) (ls1 : Array Slot), GW D B ad9 (Vw cy de ad9 (boS (drS S (ci (xs (5 * j + 1))) (xs (5 * j + 2)) (xs (5 * j + 3))) (n 3) (ci (xs (5 * j + 1))) (n 0)) n (boS (drS S (ci (xs (5 * j + 1))) (xs (5 * j + 2)) (xs (5 * j + 3))) (n 3) (ci (xs (5 * j + 1))) (n 0)) n 0 (Xl cy f2 g2)) H1 → va_S (AB B) s.heap H1 locs1 → lo ls1 9 (LW b ad9 (nI (5 * j)) none none none) → W p l e room_1 s m args below meth c H1 locs1 (cells + 9) (slots + 56) Q (F0 m 2593 ls1 [])) (k1 : ∀ (th9 : Int32) (H1 : Heap) (locs1 : List Loc) (ls1 : Array Slot), GW D B ad (Vw cy de ad S n S n th9 (Xl cy f g9)) H1 → va_S (AB B) s.heap H1 locs1 → lo ls1 9 (LW b ad (nI (5 * j)) none none none) → W p l e room_1 s m args below meth c H1 locs1 (cells + 9) (slots + 56) Q (F0 m 2593 ls1 [])) : W p l e room_1 s m args below meth c H locs cells slots Q (F0 m 1079 ls []) := by
  have hx := hC.x
  have hb := hC.b
  refine o_aload_n hx hb dL_law_1079 hl rfl ?_
  refine g_arg hC hS hX hbl hbA hL hi (q := 1) (by decide) hl rfl rfl (z := 1) rfl dL_law_1080 dL_law_1081 dL_law_1083 dL_law_1084 dL_law_1085 ?_
  refine g_arg hC hS hX hbl hbA hL hi (q := 2) (by decide) hl rfl rfl (z := 2) rfl dL_law_1086 dL_law_1087 dL_law_1089 dL_law_1090 dL_law_1091 ?_
  refine g_arg hC hS hX hbl hbA hL hi (q := 3) (by decide) hl rfl rfl (z := 3) rfl dL_law_1092 dL_law_1093 dL_law_1095 dL_law_1096 dL_law_1097 ?_
  refine o_aload_n hx hb dL_law_1098 hl rfl ?_
  refine k_L_border hfl hC hS hG hI ml_L_186 ⟨(Nat.le_of_ble_eq_true rfl), (Nat.le_of_ble_eq_true rfl)⟩ hl.1 (Nat.le_of_ble_eq_true rfl) dL_law_1099 ⟨show cells + 2 ≤ 601024 by omega, show slots + 12 ≤ 7293034 by omega⟩ (fun h0 ad9 H locs hA hG hS => ?_) (fun t9 ht4 ht0 h1 H locs hG hS => ?_)
  · have hl := LW_ag hA hl
    refine o_istore hx hb dL_law_1102 hl (by decide) rfl (fun ls hl => ?_)
    refine o_aload_n hx hb dL_law_1104 hl rfl ?_
    refine g_arg hC hS hX hbl hbA hL hi (q := 1) (by decide) hl rfl rfl (z := 1) rfl dL_law_1105 dL_law_1106 dL_law_1108 dL_law_1109 dL_law_1110 ?_
    refine g_arg hC hS hX hbl hbA hL hi (q := 2) (by decide) hl rfl rfl (z := 2) rfl dL_law_1111 dL_law_1112 dL_law_1114 dL_law_1115 dL_law_1116 ?_
    refine g_arg hC hS hX hbl hbA hL hi (q := 3) (by decide) hl rfl rfl (z := 3) rfl dL_law_1117 dL_law_1118 dL_law_1120 dL_law_1121 dL_law_1122 ?_
    refine k_X7_border hC hS hG hI ml_L_188 ⟨(Nat.le_of_ble_eq_true rfl), (Nat.le_of_ble_eq_true rfl)⟩ hl.1 (Nat.le_of_ble_eq_true rfl) dL_law_1123 ⟨show cells + 2 + 0 ≤ 601024 by omega, show slots + 12 + 0 ≤ 7293034 by omega⟩ (fun _ H locs hG hS => ?_) (fun _ t8 h8 h9 => absurd (h8.symm.trans h0) h9)
    refine o_istore hx hb dL_law_1126 hl (by decide) rfl (fun ls hl => ?_)
    refine o_aload_n hx hb dL_law_1128 hl rfl ?_
    refine k_X7_thrown hC hS hG trivial ml_L_144 ⟨(Nat.le_of_ble_eq_true rfl), (Nat.le_of_ble_eq_true rfl)⟩ hl.1 (Nat.le_of_ble_eq_true rfl) dL_law_1129 ⟨show cells + 2 + 0 + 0 ≤ 601024 by omega, show slots + 12 + 0 + 0 ≤ 7293034 by omega⟩ ?_
    refine o_iload hx hb dL_law_1132 hl rfl ?_
    refine lv_icmp_eq (tgt := 1139) hx hb dL_law_1134 (by decide) (fun _ => ?_) (fun h => absurd rfl h)
    refine o_iload hx hb dL_law_1139 hl rfl ?_
    refine lv_if_ne (tgt := 1156) hx hb dL_law_1141 (by decide) (fun h => absurd rfl h) (fun _ => ?_)
    refine o_aload_n hx hb dL_law_1144 hl rfl ?_
    refine lv_iconst (v := 0) hx hb dL_law_1145 (by decide) ?_
    refine g_lald hC hG V_out 0 rfl (by decide) (by decide) dL_law_1146 ?_
    refine bl_0 (x := (Int32.toInt64 (boN (drS S (ci (xs (5 * j + 1))) (xs (5 * j + 2)) (xs (5 * j + 3))) (n 3) (ci (xs (5 * j + 1))) (n 0)))) pk_uLs.symm ?_
    refine o_iload hx hb dL_law_1147 hl rfl ?_
    refine lv_i2l hx hb dL_law_1149 rfl ?_
    refine lv_lcmpE hx hb dL_law_1150 ?_
    refine lv_if_eq (tgt := 1156) hx hb dL_law_1151 (by decide) (fun _ => ?_) (fun h => absurd rfl h)
    refine lv_goto (tgt := 2593) hx hb dL_law_1156 (by decide) ?_
    refine W.widen (k := cells + 9) (n := slots + 56) (by omega) (by omega) ?_
    exact k0 h0 ad9 _ _ _ _ _ hG hS (LW_no hl)
  · have ht9 := nI_4 ht4 ht0
    refine o_istore hx hb dL_law_1102 hl (by decide) rfl (fun ls hl => ?_)
    refine o_aload_n hx hb dL_law_1104 hl rfl ?_
    refine g_arg hC hS hX hbl hbA hL hi (q := 1) (by decide) hl rfl rfl (z := 1) rfl dL_law_1105 dL_law_1106 dL_law_1108 dL_law_1109 dL_law_1110 ?_
    refine g_arg hC hS hX hbl hbA hL hi (q := 2) (by decide) hl rfl rfl (z := 2) rfl dL_law_1111 dL_law_1112 dL_law_1114 dL_law_1115 dL_law_1116 ?_
    refine g_arg hC hS hX hbl hbA hL hi (q := 3) (by decide) hl rfl rfl (z := 3) rfl dL_law_1117 dL_law_1118 dL_law_1120 dL_law_1121 dL_law_1122 ?_
    refine k_X7_border hC hS hG hI ml_L_188 ⟨(Nat.le_of_ble_eq_true rfl), (Nat.le_of_ble_eq_true rfl)⟩ hl.1 (Nat.le_of_ble_eq_true rfl) dL_law_1123 ⟨show cells + 2 + 0 ≤ 601024 by omega, show slots + 12 + 0 ≤ 7293034 by omega⟩ (fun h8 => absurd (h1.symm.trans h8) ht0) (fun r9 t8 h8 h9 H locs hG hS => ?_)
    obtain rfl : t8 = t9 := h8.symm.trans h1
    refine o_istore hx hb dL_law_1126 hl (by decide) rfl (fun ls hl => ?_)
    refine o_aload_n hx hb dL_law_1128 hl rfl ?_
    refine k_X7_thrown hC hS hG trivial ml_L_144 ⟨(Nat.le_of_ble_eq_true rfl), (Nat.le_of_ble_eq_true rfl)⟩ hl.1 (Nat.le_of_ble_eq_true rfl) dL_law_1129 ⟨show cells + 2 + 0 + 0 ≤ 601024 by omega, show slots + 12 + 0 + 0 ≤ 7293034 by omega⟩ ?_
    refine o_iload hx hb dL_law_1132 hl rfl ?_
    refine lv_icmp_eq (tgt := 1139) hx hb dL_law_1134 (by decide) (fun _ => ?_) (fun h => absurd rfl h)
    refine o_iload hx hb dL_law_1139 hl rfl ?_
    refine lv_if_ne (tgt := 1156) hx hb dL_law_1141 (by decide) (fun _ => ?_) (fun h => absurd h ht9)
    refine lv_goto (tgt := 2593) hx hb dL_law_1156 (by decide) ?_
    refine W.widen (k := cells + 9) (n := slots + 56) (by omega) (by omega) ?_
    exact k1 _ _ _ _ hG hS (LW_no hl)
set_option maxHeartbeats 2000000 in
set_option maxRecDepth 100000 in
theorem q_year {p : Program} {l : Launch} {e : Env} {s : State} {m : MethodId} {args : Array Value} {below : List Frame} {meth : Method} {c : Code} {H : Heap} {locs : List Loc} {cells slots : Nat} {Q : State → Prop} {ls : Array Slot} {D : va_G} {cy : Nat → ClassId} {sa : Nat → Nat} {de B : Nat} {ad : Ad} {S : St} {n : Nat → Nat} {th : Int32} {f : Nat → Int64} {g9 : Nat → UInt64} {b L : Nat} {xs : Nat → Int32} {j : Nat} (hfl : l.stackTraces = false) (hC : Cx p m c cL_law 9 s args RL D cy sa de B) (hS : va_S (AB B) s.heap H locs) (hX : va_X b L xs s s.heap) (hbl : b < s.heap.size) (hbA : ¬ AB B b) (hL : L ≤ 2560) (hi : 5 * j + 4 < L) (hl : lo ls 9 (LW b ad (nI (5 * j)) none none none)) (hG : GW D B ad (Vw cy de ad S n S n th (Xl cy f g9)) H) (hI : Inv S n) (hroom : cells + 9 ≤ 601024 ∧ slots + 56 ≤ 7293034) (k1 : ∀ (th9 : Int32) (H1 : Heap) (locs1 : List Loc) (ls1 : Array Slot), GW D B ad (Vw cy de ad S n S n th9 (Xl cy f g9)) H1 → va_S (AB B) s.heap H1 locs1 → lo ls1 9 (LW b ad (nI (5 * j)) none none none) → W p l e room_1 s m args below meth c H1 locs1 (cells + 9) (slots + 56) Q (F0 m 2593 ls1 [])) : W p l e room_1 s m args below meth c H locs cells slots Q (F0 m 1159 ls []) := by
  have hx := hC.x
  have hb := hC.b
  refine o_aload_n hx hb dL_law_1159 hl rfl ?_
  refine k_X6_year hC hS hG trivial ml_L_189 ⟨(Nat.le_of_ble_eq_true rfl), (Nat.le_of_ble_eq_true rfl)⟩ hl.1 (Nat.le_of_ble_eq_true rfl) dL_law_1160 ⟨show cells + 0 ≤ 601024 by omega, show slots + 0 ≤ 7293034 by omega⟩ ?_
  refine o_aload_n hx hb dL_law_1163 hl rfl ?_
  refine k_X7_year hC hS hG trivial ml_L_192 ⟨(Nat.le_of_ble_eq_true rfl), (Nat.le_of_ble_eq_true rfl)⟩ hl.1 (Nat.le_of_ble_eq_true rfl) dL_law_1164 ⟨show cells + 0 ≤ 601024 by omega, show slots + 0 ≤ 7293034 by omega⟩ (fun H locs hG hS => ?_)
  refine lv_icmp_eq (tgt := 2593) hx hb dL_law_1167 (by decide) (fun _ => ?_) (fun h => absurd rfl h)
  refine W.widen (k := cells + 9) (n := slots + 56) (by omega) (by omega) ?_
  exact k1 _ _ _ _ hG hS hl
set_option maxHeartbeats 4000000 in
set_option maxRecDepth 100000 in
theorem q_next {p : Program} {l : Launch} {e : Env} {s : State} {m : MethodId} {args : Array Value} {below : List Frame} {meth : Method} {c : Code} {H : Heap} {locs : List Loc} {cells slots : Nat} {Q : State → Prop} {ls : Array Slot} {D : va_G} {cy : Nat → ClassId} {sa : Nat → Nat} {de B : Nat} {ad : Ad} {S : St} {n : Nat → Nat} {th : Int32} {f : Nat → Int64} {g9 : Nat → UInt64} {b L : Nat} {xs : Nat → Int32} {j : Nat} (hfl : l.stackTraces = false) (hC : Cx p m c cL_law 9 s args RL D cy sa de B) (hS : va_S (AB B) s.heap H locs) (hX : va_X b L xs s s.heap) (hbl : b < s.heap.size) (hbA : ¬ AB B b) (hL : L ≤ 2560) (hi : 5 * j + 4 < L) (hl : lo ls 9 (LW b ad (nI (5 * j)) none none none)) (hG : GW D B ad (Vw cy de ad S n S n th (Xl cy f g9)) H) (hI : Inv S n) (hroom : cells + 9 ≤ 601024 ∧ slots + 56 ≤ 7293034) (k0 : cd_next S = 0 → ∀ (ad9 : Ad) (f2 : Nat → Int64) (g2 : Nat → UInt64) (H1 : Heap) (locs1 : List Loc) (ls1 : Array Slot), GW D B ad9 (Vw cy de ad9 (nxtS S n) n (nxtS S n) n 0 (Xl cy f2 g2)) H1 → va_S (AB B) s.heap H1 locs1 → lo ls1 9 (LW b ad9 (nI (5 * j)) none none none) → W p l e room_1 s m args below meth c H1 locs1 (cells + 9) (slots + 56) Q (F0 m 2593 ls1 [])) (k1 : ∀ (th9 : Int32) (H1 : Heap) (locs1 : List Loc) (ls1 : Array Slot), GW D B ad (Vw cy de ad S n S n th9 (Xl cy f g9)) H1 → va_S (AB B) s.heap H1 locs1 → lo ls1 9 (LW b ad (nI (5 * j)) none none none) → W p l e room_1 s m args below meth c H1 locs1 (cells + 9) (slots + 56) Q (F0 m 2593 ls1 [])) : W p l e room_1 s m args below meth c H locs cells slots Q (F0 m 1172 ls []) := by
  have hx := hC.x
  have hb := hC.b
  refine o_aload_n hx hb dL_law_1172 hl rfl ?_
  refine o_aload_n hx hb dL_law_1173 hl rfl ?_
  refine k_L_next hfl hC hS hG hI ml_L_193 ⟨(Nat.le_of_ble_eq_true rfl), (Nat.le_of_ble_eq_true rfl)⟩ hl.1 (Nat.le_of_ble_eq_true rfl) dL_law_1174 ⟨show cells + 1 ≤ 601024 by omega, show slots + 6 ≤ 7293034 by omega⟩ (fun h0 ad9 H locs hA hG hS => ?_) (fun t9 ht4 ht0 h1 H locs hG hS => ?_)
  · have hl := LW_ag hA hl
    refine o_istore hx hb dL_law_1177 hl (by decide) rfl (fun ls hl => ?_)
    refine o_aload_n hx hb dL_law_1179 hl rfl ?_
    refine k_X7_next hC hS hG hI ml_L_196 ⟨(Nat.le_of_ble_eq_true rfl), (Nat.le_of_ble_eq_true rfl)⟩ hl.1 (Nat.le_of_ble_eq_true rfl) dL_law_1180 ⟨show cells + 1 + 0 ≤ 601024 by omega, show slots + 6 + 0 ≤ 7293034 by omega⟩ (fun _ H locs hG hS => ?_) (fun _ t8 h8 h9 => absurd (h8.symm.trans h0) h9)
    refine o_istore hx hb dL_law_1183 hl (by decide) rfl (fun ls hl => ?_)
    refine o_aload_n hx hb dL_law_1185 hl rfl ?_
    refine k_X7_thrown hC hS hG trivial ml_L_144 ⟨(Nat.le_of_ble_eq_true rfl), (Nat.le_of_ble_eq_true rfl)⟩ hl.1 (Nat.le_of_ble_eq_true rfl) dL_law_1186 ⟨show cells + 1 + 0 + 0 ≤ 601024 by omega, show slots + 6 + 0 + 0 ≤ 7293034 by omega⟩ ?_
    refine o_iload hx hb dL_law_1189 hl rfl ?_
    refine lv_icmp_eq (tgt := 1196) hx hb dL_law_1191 (by decide) (fun _ => ?_) (fun h => absurd rfl h)
    refine o_iload hx hb dL_law_1196 hl rfl ?_
    refine lv_if_ne (tgt := 1213) hx hb dL_law_1198 (by decide) (fun h => absurd rfl h) (fun _ => ?_)
    refine o_aload_n hx hb dL_law_1201 hl rfl ?_
    refine lv_iconst (v := 0) hx hb dL_law_1202 (by decide) ?_
    refine g_lald hC hG V_out 0 rfl (by decide) (by decide) dL_law_1203 ?_
    refine bl_0 (x := (Int32.toInt64 (nxtS S n 23 0 0))) pk_uLs.symm ?_
    refine o_iload hx hb dL_law_1204 hl rfl ?_
    refine lv_i2l hx hb dL_law_1206 rfl ?_
    refine lv_lcmpE hx hb dL_law_1207 ?_
    refine lv_if_eq (tgt := 1213) hx hb dL_law_1208 (by decide) (fun _ => ?_) (fun h => absurd rfl h)
    refine lv_goto (tgt := 2593) hx hb dL_law_1213 (by decide) ?_
    refine W.widen (k := cells + 9) (n := slots + 56) (by omega) (by omega) ?_
    exact k0 h0 ad9 _ _ _ _ _ hG hS (LW_no hl)
  · have ht9 := nI_4 ht4 ht0
    refine o_istore hx hb dL_law_1177 hl (by decide) rfl (fun ls hl => ?_)
    refine o_aload_n hx hb dL_law_1179 hl rfl ?_
    refine k_X7_next hC hS hG hI ml_L_196 ⟨(Nat.le_of_ble_eq_true rfl), (Nat.le_of_ble_eq_true rfl)⟩ hl.1 (Nat.le_of_ble_eq_true rfl) dL_law_1180 ⟨show cells + 1 + 0 ≤ 601024 by omega, show slots + 6 + 0 ≤ 7293034 by omega⟩ (fun h8 => absurd (h1.symm.trans h8) ht0) (fun r9 t8 h8 h9 H locs hG hS => ?_)
    obtain rfl : t8 = t9 := h8.symm.trans h1
    refine o_istore hx hb dL_law_1183 hl (by decide) rfl (fun ls hl => ?_)
    refine o_aload_n hx hb dL_law_1185 hl rfl ?_
    refine k_X7_thrown hC hS hG trivial ml_L_144 ⟨(Nat.le_of_ble_eq_true rfl), (Nat.le_of_ble_eq_true rfl)⟩ hl.1 (Nat.le_of_ble_eq_true rfl) dL_law_1186 ⟨show cells + 1 + 0 + 0 ≤ 601024 by omega, show slots + 6 + 0 + 0 ≤ 7293034 by omega⟩ ?_
    refine o_iload hx hb dL_law_1189 hl rfl ?_
    refine lv_icmp_eq (tgt := 1196) hx hb dL_law_1191 (by decide) (fun _ => ?_) (fun h => absurd rfl h)
    refine o_iload hx hb dL_law_1196 hl rfl ?_
    refine lv_if_ne (tgt := 1213) hx hb dL_law_1198 (by decide) (fun _ => ?_) (fun h => absurd h ht9)
    refine lv_goto (tgt := 2593) hx hb dL_law_1213 (by decide) ?_
    refine W.widen (k := cells + 9) (n := slots + 56) (by omega) (by omega) ?_
    exact k1 _ _ _ _ hG hS (LW_no hl)
set_option maxHeartbeats 4000000 in
set_option maxRecDepth 100000 in
theorem q_until {p : Program} {l : Launch} {e : Env} {s : State} {m : MethodId} {args : Array Value} {below : List Frame} {meth : Method} {c : Code} {H : Heap} {locs : List Loc} {cells slots : Nat} {Q : State → Prop} {ls : Array Slot} {D : va_G} {cy : Nat → ClassId} {sa : Nat → Nat} {de B : Nat} {ad : Ad} {S : St} {n : Nat → Nat} {th : Int32} {f : Nat → Int64} {g9 : Nat → UInt64} {b L : Nat} {xs : Nat → Int32} {j : Nat} (hfl : l.stackTraces = false) (hC : Cx p m c cL_law 9 s args RL D cy sa de B) (hS : va_S (AB B) s.heap H locs) (hX : va_X b L xs s s.heap) (hbl : b < s.heap.size) (hbA : ¬ AB B b) (hL : L ≤ 2560) (hi : 5 * j + 4 < L) (hl : lo ls 9 (LW b ad (nI (5 * j)) none none none)) (hG : GW D B ad (Vw cy de ad S n S n th (Xl cy f g9)) H) (hI : Inv S n) (hroom : cells + 9 ≤ 601024 ∧ slots + 56 ≤ 7293034) (k0 : cd_until S n (xs (5 * j + 1)) = 0 → ∀ (ad9 : Ad) (f2 : Nat → Int64) (g2 : Nat → UInt64) (H1 : Heap) (locs1 : List Loc) (ls1 : Array Slot), GW D B ad9 (Vw cy de ad9 S n S n 0 (Xl cy f2 g2)) H1 → va_S (AB B) s.heap H1 locs1 → lo ls1 9 (LW b ad9 (nI (5 * j)) none none none) → W p l e room_1 s m args below meth c H1 locs1 (cells + 9) (slots + 56) Q (F0 m 2593 ls1 [])) (k1 : ∀ (th9 : Int32) (H1 : Heap) (locs1 : List Loc) (ls1 : Array Slot), GW D B ad (Vw cy de ad S n S n th9 (Xl cy f g9)) H1 → va_S (AB B) s.heap H1 locs1 → lo ls1 9 (LW b ad (nI (5 * j)) none none none) → W p l e room_1 s m args below meth c H1 locs1 (cells + 9) (slots + 56) Q (F0 m 2593 ls1 [])) : W p l e room_1 s m args below meth c H locs cells slots Q (F0 m 1216 ls []) := by
  have hx := hC.x
  have hb := hC.b
  refine o_aload_n hx hb dL_law_1216 hl rfl ?_
  refine g_arg hC hS hX hbl hbA hL hi (q := 1) (by decide) hl rfl rfl (z := 1) rfl dL_law_1217 dL_law_1218 dL_law_1220 dL_law_1221 dL_law_1222 ?_
  refine o_aload_n hx hb dL_law_1223 hl rfl ?_
  refine k_L_until hfl hC hS hG hI ml_L_197 ⟨(Nat.le_of_ble_eq_true rfl), (Nat.le_of_ble_eq_true rfl)⟩ hl.1 (Nat.le_of_ble_eq_true rfl) dL_law_1224 ⟨show cells + 2 ≤ 601024 by omega, show slots + 12 ≤ 7293034 by omega⟩ (fun h0 ad9 H locs hA hG hS => ?_) (fun t9 ht4 ht0 h1 H locs hG hS => ?_)
  · have hl := LW_ag hA hl
    refine o_istore hx hb dL_law_1227 hl (by decide) rfl (fun ls hl => ?_)
    refine o_aload_n hx hb dL_law_1229 hl rfl ?_
    refine g_arg hC hS hX hbl hbA hL hi (q := 1) (by decide) hl rfl rfl (z := 1) rfl dL_law_1230 dL_law_1231 dL_law_1233 dL_law_1234 dL_law_1235 ?_
    refine k_X7_until hC hS hG hI ml_L_199 ⟨(Nat.le_of_ble_eq_true rfl), (Nat.le_of_ble_eq_true rfl)⟩ hl.1 (Nat.le_of_ble_eq_true rfl) dL_law_1236 ⟨show cells + 2 + 0 ≤ 601024 by omega, show slots + 12 + 0 ≤ 7293034 by omega⟩ (fun _ H locs hG hS => ?_) (fun _ t8 h8 h9 => absurd (h8.symm.trans h0) h9)
    refine o_istore hx hb dL_law_1239 hl (by decide) rfl (fun ls hl => ?_)
    refine o_aload_n hx hb dL_law_1241 hl rfl ?_
    refine k_X7_thrown hC hS hG trivial ml_L_144 ⟨(Nat.le_of_ble_eq_true rfl), (Nat.le_of_ble_eq_true rfl)⟩ hl.1 (Nat.le_of_ble_eq_true rfl) dL_law_1242 ⟨show cells + 2 + 0 + 0 ≤ 601024 by omega, show slots + 12 + 0 + 0 ≤ 7293034 by omega⟩ ?_
    refine o_iload hx hb dL_law_1245 hl rfl ?_
    refine lv_icmp_eq (tgt := 1252) hx hb dL_law_1247 (by decide) (fun _ => ?_) (fun h => absurd rfl h)
    refine o_iload hx hb dL_law_1252 hl rfl ?_
    refine lv_if_ne (tgt := 1269) hx hb dL_law_1254 (by decide) (fun h => absurd rfl h) (fun _ => ?_)
    refine o_aload_n hx hb dL_law_1257 hl rfl ?_
    refine lv_iconst (v := 0) hx hb dL_law_1258 (by decide) ?_
    refine g_lald hC hG V_out 0 rfl (by decide) (by decide) dL_law_1259 ?_
    refine bl_0 (x := (Int32.toInt64 (S 2 (ci (xs (5 * j + 1))) 0))) pk_uLs.symm ?_
    refine o_iload hx hb dL_law_1260 hl rfl ?_
    refine lv_i2l hx hb dL_law_1262 rfl ?_
    refine lv_lcmpE hx hb dL_law_1263 ?_
    refine lv_if_eq (tgt := 1269) hx hb dL_law_1264 (by decide) (fun _ => ?_) (fun h => absurd rfl h)
    refine lv_goto (tgt := 2593) hx hb dL_law_1269 (by decide) ?_
    refine W.widen (k := cells + 9) (n := slots + 56) (by omega) (by omega) ?_
    exact k0 h0 ad9 _ _ _ _ _ hG hS (LW_no hl)
  · have ht9 := nI_4 ht4 ht0
    refine o_istore hx hb dL_law_1227 hl (by decide) rfl (fun ls hl => ?_)
    refine o_aload_n hx hb dL_law_1229 hl rfl ?_
    refine g_arg hC hS hX hbl hbA hL hi (q := 1) (by decide) hl rfl rfl (z := 1) rfl dL_law_1230 dL_law_1231 dL_law_1233 dL_law_1234 dL_law_1235 ?_
    refine k_X7_until hC hS hG hI ml_L_199 ⟨(Nat.le_of_ble_eq_true rfl), (Nat.le_of_ble_eq_true rfl)⟩ hl.1 (Nat.le_of_ble_eq_true rfl) dL_law_1236 ⟨show cells + 2 + 0 ≤ 601024 by omega, show slots + 12 + 0 ≤ 7293034 by omega⟩ (fun h8 => absurd (h1.symm.trans h8) ht0) (fun r9 t8 h8 h9 H locs hG hS => ?_)
    obtain rfl : t8 = t9 := h8.symm.trans h1
    refine o_istore hx hb dL_law_1239 hl (by decide) rfl (fun ls hl => ?_)
    refine o_aload_n hx hb dL_law_1241 hl rfl ?_
    refine k_X7_thrown hC hS hG trivial ml_L_144 ⟨(Nat.le_of_ble_eq_true rfl), (Nat.le_of_ble_eq_true rfl)⟩ hl.1 (Nat.le_of_ble_eq_true rfl) dL_law_1242 ⟨show cells + 2 + 0 + 0 ≤ 601024 by omega, show slots + 12 + 0 + 0 ≤ 7293034 by omega⟩ ?_
    refine o_iload hx hb dL_law_1245 hl rfl ?_
    refine lv_icmp_eq (tgt := 1252) hx hb dL_law_1247 (by decide) (fun _ => ?_) (fun h => absurd rfl h)
    refine o_iload hx hb dL_law_1252 hl rfl ?_
    refine lv_if_ne (tgt := 1269) hx hb dL_law_1254 (by decide) (fun _ => ?_) (fun h => absurd h ht9)
    refine lv_goto (tgt := 2593) hx hb dL_law_1269 (by decide) ?_
    refine W.widen (k := cells + 9) (n := slots + 56) (by omega) (by omega) ?_
    exact k1 _ _ _ _ hG hS (LW_no hl)
set_option maxHeartbeats 4000000 in
set_option maxRecDepth 100000 in
theorem q_event {p : Program} {l : Launch} {e : Env} {s : State} {m : MethodId} {args : Array Value} {below : List Frame} {meth : Method} {c : Code} {H : Heap} {locs : List Loc} {cells slots : Nat} {Q : State → Prop} {ls : Array Slot} {D : va_G} {cy : Nat → ClassId} {sa : Nat → Nat} {de B : Nat} {ad : Ad} {S : St} {n : Nat → Nat} {th : Int32} {f : Nat → Int64} {g9 : Nat → UInt64} {b L : Nat} {xs : Nat → Int32} {j : Nat} (hfl : l.stackTraces = false) (hC : Cx p m c cL_law 9 s args RL D cy sa de B) (hS : va_S (AB B) s.heap H locs) (hX : va_X b L xs s s.heap) (hbl : b < s.heap.size) (hbA : ¬ AB B b) (hL : L ≤ 2560) (hi : 5 * j + 4 < L) (hl : lo ls 9 (LW b ad (nI (5 * j)) none none none)) (hG : GW D B ad (Vw cy de ad S n S n th (Xl cy f g9)) H) (hI : Inv S n) (hroom : cells + 9 ≤ 601024 ∧ slots + 56 ≤ 7293034) (k0 : cd_event n (xs (5 * j + 1)) = 0 → ∀ (ad9 : Ad) (f2 : Nat → Int64) (g2 : Nat → UInt64) (H1 : Heap) (locs1 : List Loc) (ls1 : Array Slot), GW D B ad9 (Vw cy de ad9 (evS S (n 3) (xs (5 * j + 1))) (nUp n 3) (evS S (n 3) (xs (5 * j + 1))) (nUp n 3) 0 (Xl cy f2 g2)) H1 → va_S (AB B) s.heap H1 locs1 → lo ls1 9 (LW b ad9 (nI (5 * j)) none none none) → W p l e room_1 s m args below meth c H1 locs1 (cells + 9) (slots + 56) Q (F0 m 2593 ls1 [])) (k1 : ∀ (th9 : Int32) (H1 : Heap) (locs1 : List Loc) (ls1 : Array Slot), GW D B ad (Vw cy de ad S n S n th9 (Xl cy f g9)) H1 → va_S (AB B) s.heap H1 locs1 → lo ls1 9 (LW b ad (nI (5 * j)) none none none) → W p l e room_1 s m args below meth c H1 locs1 (cells + 9) (slots + 56) Q (F0 m 2593 ls1 [])) : W p l e room_1 s m args below meth c H locs cells slots Q (F0 m 1272 ls []) := by
  have hx := hC.x
  have hb := hC.b
  refine o_aload_n hx hb dL_law_1272 hl rfl ?_
  refine g_arg hC hS hX hbl hbA hL hi (q := 1) (by decide) hl rfl rfl (z := 1) rfl dL_law_1273 dL_law_1274 dL_law_1276 dL_law_1277 dL_law_1278 ?_
  refine o_aload_n hx hb dL_law_1279 hl rfl ?_
  refine k_L_event hfl hC hS hG hI ml_L_200 ⟨(Nat.le_of_ble_eq_true rfl), (Nat.le_of_ble_eq_true rfl)⟩ hl.1 (Nat.le_of_ble_eq_true rfl) dL_law_1280 ⟨show cells + 4 ≤ 601024 by omega, show slots + 51 ≤ 7293034 by omega⟩ (fun h0 ad9 H locs hA hG hS => ?_) (fun t9 ht4 ht0 h1 H locs hG hS => ?_)
  · have hl := LW_ag hA hl
    refine o_istore hx hb dL_law_1283 hl (by decide) rfl (fun ls hl => ?_)
    refine o_aload_n hx hb dL_law_1285 hl rfl ?_
    refine g_arg hC hS hX hbl hbA hL hi (q := 1) (by decide) hl rfl rfl (z := 1) rfl dL_law_1286 dL_law_1287 dL_law_1289 dL_law_1290 dL_law_1291 ?_
    refine k_X7_event hC hS hG hI ml_L_202 ⟨(Nat.le_of_ble_eq_true rfl), (Nat.le_of_ble_eq_true rfl)⟩ hl.1 (Nat.le_of_ble_eq_true rfl) dL_law_1292 ⟨show cells + 4 + 0 ≤ 601024 by omega, show slots + 51 + 0 ≤ 7293034 by omega⟩ (fun _ H locs hG hS => ?_) (fun _ t8 h8 h9 => absurd (h8.symm.trans h0) h9)
    refine o_istore hx hb dL_law_1295 hl (by decide) rfl (fun ls hl => ?_)
    refine o_aload_n hx hb dL_law_1297 hl rfl ?_
    refine k_X7_thrown hC hS hG trivial ml_L_144 ⟨(Nat.le_of_ble_eq_true rfl), (Nat.le_of_ble_eq_true rfl)⟩ hl.1 (Nat.le_of_ble_eq_true rfl) dL_law_1298 ⟨show cells + 4 + 0 + 0 ≤ 601024 by omega, show slots + 51 + 0 + 0 ≤ 7293034 by omega⟩ ?_
    refine o_iload hx hb dL_law_1301 hl rfl ?_
    refine lv_icmp_eq (tgt := 1308) hx hb dL_law_1303 (by decide) (fun _ => ?_) (fun h => absurd rfl h)
    refine o_iload hx hb dL_law_1308 hl rfl ?_
    refine lv_if_ne (tgt := 1325) hx hb dL_law_1310 (by decide) (fun h => absurd rfl h) (fun _ => ?_)
    refine o_aload_n hx hb dL_law_1313 hl rfl ?_
    refine lv_iconst (v := 0) hx hb dL_law_1314 (by decide) ?_
    refine g_lald hC hG V_out 0 rfl (by decide) (by decide) dL_law_1315 ?_
    refine bl_0 (x := (Int32.toInt64 (nI (n 3)))) pk_uLs.symm ?_
    refine o_iload hx hb dL_law_1316 hl rfl ?_
    refine lv_i2l hx hb dL_law_1318 rfl ?_
    refine lv_lcmpE hx hb dL_law_1319 ?_
    refine lv_if_eq (tgt := 1325) hx hb dL_law_1320 (by decide) (fun _ => ?_) (fun h => absurd rfl h)
    refine lv_goto (tgt := 2593) hx hb dL_law_1325 (by decide) ?_
    refine W.widen (k := cells + 9) (n := slots + 56) (by omega) (by omega) ?_
    exact k0 h0 ad9 _ _ _ _ _ hG hS (LW_no hl)
  · have ht9 := nI_4 ht4 ht0
    refine o_istore hx hb dL_law_1283 hl (by decide) rfl (fun ls hl => ?_)
    refine o_aload_n hx hb dL_law_1285 hl rfl ?_
    refine g_arg hC hS hX hbl hbA hL hi (q := 1) (by decide) hl rfl rfl (z := 1) rfl dL_law_1286 dL_law_1287 dL_law_1289 dL_law_1290 dL_law_1291 ?_
    refine k_X7_event hC hS hG hI ml_L_202 ⟨(Nat.le_of_ble_eq_true rfl), (Nat.le_of_ble_eq_true rfl)⟩ hl.1 (Nat.le_of_ble_eq_true rfl) dL_law_1292 ⟨show cells + 4 + 0 ≤ 601024 by omega, show slots + 51 + 0 ≤ 7293034 by omega⟩ (fun h8 => absurd (h1.symm.trans h8) ht0) (fun r9 t8 h8 h9 H locs hG hS => ?_)
    obtain rfl : t8 = t9 := h8.symm.trans h1
    refine o_istore hx hb dL_law_1295 hl (by decide) rfl (fun ls hl => ?_)
    refine o_aload_n hx hb dL_law_1297 hl rfl ?_
    refine k_X7_thrown hC hS hG trivial ml_L_144 ⟨(Nat.le_of_ble_eq_true rfl), (Nat.le_of_ble_eq_true rfl)⟩ hl.1 (Nat.le_of_ble_eq_true rfl) dL_law_1298 ⟨show cells + 4 + 0 + 0 ≤ 601024 by omega, show slots + 51 + 0 + 0 ≤ 7293034 by omega⟩ ?_
    refine o_iload hx hb dL_law_1301 hl rfl ?_
    refine lv_icmp_eq (tgt := 1308) hx hb dL_law_1303 (by decide) (fun _ => ?_) (fun h => absurd rfl h)
    refine o_iload hx hb dL_law_1308 hl rfl ?_
    refine lv_if_ne (tgt := 1325) hx hb dL_law_1310 (by decide) (fun _ => ?_) (fun h => absurd h ht9)
    refine lv_goto (tgt := 2593) hx hb dL_law_1325 (by decide) ?_
    refine W.widen (k := cells + 9) (n := slots + 56) (by omega) (by omega) ?_
    exact k1 _ _ _ _ hG hS (LW_no hl)
set_option maxHeartbeats 4000000 in
set_option maxRecDepth 100000 in
theorem q_factor {p : Program} {l : Launch} {e : Env} {s : State} {m : MethodId} {args : Array Value} {below : List Frame} {meth : Method} {c : Code} {H : Heap} {locs : List Loc} {cells slots : Nat} {Q : State → Prop} {ls : Array Slot} {D : va_G} {cy : Nat → ClassId} {sa : Nat → Nat} {de B : Nat} {ad : Ad} {S : St} {n : Nat → Nat} {th : Int32} {f : Nat → Int64} {g9 : Nat → UInt64} {b L : Nat} {xs : Nat → Int32} {j : Nat} (hfl : l.stackTraces = false) (hC : Cx p m c cL_law 9 s args RL D cy sa de B) (hS : va_S (AB B) s.heap H locs) (hX : va_X b L xs s s.heap) (hbl : b < s.heap.size) (hbA : ¬ AB B b) (hL : L ≤ 2560) (hi : 5 * j + 4 < L) (hl : lo ls 9 (LW b ad (nI (5 * j)) none none none)) (hG : GW D B ad (Vw cy de ad S n S n th (Xl cy f g9)) H) (hI : Inv S n) (hroom : cells + 9 ≤ 601024 ∧ slots + 56 ≤ 7293034) (k0 : cd_factor S n (xs (5 * j + 1)) (xs (5 * j + 2)) (xs (5 * j + 3)) = 0 → ∀ (ad9 : Ad) (f2 : Nat → Int64) (g2 : Nat → UInt64) (H1 : Heap) (locs1 : List Loc) (ls1 : Array Slot), GW D B ad9 (Vw cy de ad9 (up_factor S (xs (5 * j + 1)) (xs (5 * j + 2)) (xs (5 * j + 3))) n (up_factor S (xs (5 * j + 1)) (xs (5 * j + 2)) (xs (5 * j + 3))) n 0 (Xl cy f2 g2)) H1 → va_S (AB B) s.heap H1 locs1 → lo ls1 9 (LW b ad9 (nI (5 * j)) none none none) → W p l e room_1 s m args below meth c H1 locs1 (cells + 9) (slots + 56) Q (F0 m 2593 ls1 [])) (k1 : ∀ (th9 : Int32) (H1 : Heap) (locs1 : List Loc) (ls1 : Array Slot), GW D B ad (Vw cy de ad S n S n th9 (Xl cy f g9)) H1 → va_S (AB B) s.heap H1 locs1 → lo ls1 9 (LW b ad (nI (5 * j)) none none none) → W p l e room_1 s m args below meth c H1 locs1 (cells + 9) (slots + 56) Q (F0 m 2593 ls1 [])) : W p l e room_1 s m args below meth c H locs cells slots Q (F0 m 1328 ls []) := by
  have hx := hC.x
  have hb := hC.b
  refine o_aload_n hx hb dL_law_1328 hl rfl ?_
  refine g_arg hC hS hX hbl hbA hL hi (q := 1) (by decide) hl rfl rfl (z := 1) rfl dL_law_1329 dL_law_1330 dL_law_1332 dL_law_1333 dL_law_1334 ?_
  refine g_arg hC hS hX hbl hbA hL hi (q := 2) (by decide) hl rfl rfl (z := 2) rfl dL_law_1335 dL_law_1336 dL_law_1338 dL_law_1339 dL_law_1340 ?_
  refine g_arg hC hS hX hbl hbA hL hi (q := 3) (by decide) hl rfl rfl (z := 3) rfl dL_law_1341 dL_law_1342 dL_law_1344 dL_law_1345 dL_law_1346 ?_
  refine o_aload_n hx hb dL_law_1347 hl rfl ?_
  refine k_L_factor hfl hC hS hG hI ml_L_203 ⟨(Nat.le_of_ble_eq_true rfl), (Nat.le_of_ble_eq_true rfl)⟩ hl.1 (Nat.le_of_ble_eq_true rfl) dL_law_1348 ⟨show cells + 2 ≤ 601024 by omega, show slots + 12 ≤ 7293034 by omega⟩ (fun h0 ad9 H locs hA hG hS => ?_) (fun t9 ht4 ht0 h1 H locs hG hS => ?_)
  · have hl := LW_ag hA hl
    refine o_istore hx hb dL_law_1351 hl (by decide) rfl (fun ls hl => ?_)
    refine o_aload_n hx hb dL_law_1353 hl rfl ?_
    refine g_arg hC hS hX hbl hbA hL hi (q := 1) (by decide) hl rfl rfl (z := 1) rfl dL_law_1354 dL_law_1355 dL_law_1357 dL_law_1358 dL_law_1359 ?_
    refine g_arg hC hS hX hbl hbA hL hi (q := 2) (by decide) hl rfl rfl (z := 2) rfl dL_law_1360 dL_law_1361 dL_law_1363 dL_law_1364 dL_law_1365 ?_
    refine g_arg hC hS hX hbl hbA hL hi (q := 3) (by decide) hl rfl rfl (z := 3) rfl dL_law_1366 dL_law_1367 dL_law_1369 dL_law_1370 dL_law_1371 ?_
    refine k_X7_factor hC hS hG hI ml_L_205 ⟨(Nat.le_of_ble_eq_true rfl), (Nat.le_of_ble_eq_true rfl)⟩ hl.1 (Nat.le_of_ble_eq_true rfl) dL_law_1372 ⟨show cells + 2 + 0 ≤ 601024 by omega, show slots + 12 + 0 ≤ 7293034 by omega⟩ (fun _ H locs hG hS => ?_) (fun _ t8 h8 h9 => absurd (h8.symm.trans h0) h9)
    refine o_istore hx hb dL_law_1375 hl (by decide) rfl (fun ls hl => ?_)
    refine o_aload_n hx hb dL_law_1377 hl rfl ?_
    refine k_X7_thrown hC hS hG trivial ml_L_144 ⟨(Nat.le_of_ble_eq_true rfl), (Nat.le_of_ble_eq_true rfl)⟩ hl.1 (Nat.le_of_ble_eq_true rfl) dL_law_1378 ⟨show cells + 2 + 0 + 0 ≤ 601024 by omega, show slots + 12 + 0 + 0 ≤ 7293034 by omega⟩ ?_
    refine o_iload hx hb dL_law_1381 hl rfl ?_
    refine lv_icmp_eq (tgt := 1388) hx hb dL_law_1383 (by decide) (fun _ => ?_) (fun h => absurd rfl h)
    refine o_iload hx hb dL_law_1388 hl rfl ?_
    refine lv_if_ne (tgt := 1405) hx hb dL_law_1390 (by decide) (fun h => absurd rfl h) (fun _ => ?_)
    refine o_aload_n hx hb dL_law_1393 hl rfl ?_
    refine lv_iconst (v := 0) hx hb dL_law_1394 (by decide) ?_
    refine g_lald hC hG V_out 0 rfl (by decide) (by decide) dL_law_1395 ?_
    refine bl_0 (x := (Int32.toInt64 (S 17 (ci (xs (5 * j + 1))) (ci (xs (5 * j + 2)))))) pk_uLs.symm ?_
    refine o_iload hx hb dL_law_1396 hl rfl ?_
    refine lv_i2l hx hb dL_law_1398 rfl ?_
    refine lv_lcmpE hx hb dL_law_1399 ?_
    refine lv_if_eq (tgt := 1405) hx hb dL_law_1400 (by decide) (fun _ => ?_) (fun h => absurd rfl h)
    refine lv_goto (tgt := 2593) hx hb dL_law_1405 (by decide) ?_
    refine W.widen (k := cells + 9) (n := slots + 56) (by omega) (by omega) ?_
    exact k0 h0 ad9 _ _ _ _ _ hG hS (LW_no hl)
  · have ht9 := nI_4 ht4 ht0
    refine o_istore hx hb dL_law_1351 hl (by decide) rfl (fun ls hl => ?_)
    refine o_aload_n hx hb dL_law_1353 hl rfl ?_
    refine g_arg hC hS hX hbl hbA hL hi (q := 1) (by decide) hl rfl rfl (z := 1) rfl dL_law_1354 dL_law_1355 dL_law_1357 dL_law_1358 dL_law_1359 ?_
    refine g_arg hC hS hX hbl hbA hL hi (q := 2) (by decide) hl rfl rfl (z := 2) rfl dL_law_1360 dL_law_1361 dL_law_1363 dL_law_1364 dL_law_1365 ?_
    refine g_arg hC hS hX hbl hbA hL hi (q := 3) (by decide) hl rfl rfl (z := 3) rfl dL_law_1366 dL_law_1367 dL_law_1369 dL_law_1370 dL_law_1371 ?_
    refine k_X7_factor hC hS hG hI ml_L_205 ⟨(Nat.le_of_ble_eq_true rfl), (Nat.le_of_ble_eq_true rfl)⟩ hl.1 (Nat.le_of_ble_eq_true rfl) dL_law_1372 ⟨show cells + 2 + 0 ≤ 601024 by omega, show slots + 12 + 0 ≤ 7293034 by omega⟩ (fun h8 => absurd (h1.symm.trans h8) ht0) (fun r9 t8 h8 h9 H locs hG hS => ?_)
    obtain rfl : t8 = t9 := h8.symm.trans h1
    refine o_istore hx hb dL_law_1375 hl (by decide) rfl (fun ls hl => ?_)
    refine o_aload_n hx hb dL_law_1377 hl rfl ?_
    refine k_X7_thrown hC hS hG trivial ml_L_144 ⟨(Nat.le_of_ble_eq_true rfl), (Nat.le_of_ble_eq_true rfl)⟩ hl.1 (Nat.le_of_ble_eq_true rfl) dL_law_1378 ⟨show cells + 2 + 0 + 0 ≤ 601024 by omega, show slots + 12 + 0 + 0 ≤ 7293034 by omega⟩ ?_
    refine o_iload hx hb dL_law_1381 hl rfl ?_
    refine lv_icmp_eq (tgt := 1388) hx hb dL_law_1383 (by decide) (fun _ => ?_) (fun h => absurd rfl h)
    refine o_iload hx hb dL_law_1388 hl rfl ?_
    refine lv_if_ne (tgt := 1405) hx hb dL_law_1390 (by decide) (fun _ => ?_) (fun h => absurd h ht9)
    refine lv_goto (tgt := 2593) hx hb dL_law_1405 (by decide) ?_
    refine W.widen (k := cells + 9) (n := slots + 56) (by omega) (by omega) ?_
    exact k1 _ _ _ _ hG hS (LW_no hl)
set_option maxHeartbeats 4000000 in
set_option maxRecDepth 100000 in
theorem q_enter {p : Program} {l : Launch} {e : Env} {s : State} {m : MethodId} {args : Array Value} {below : List Frame} {meth : Method} {c : Code} {H : Heap} {locs : List Loc} {cells slots : Nat} {Q : State → Prop} {ls : Array Slot} {D : va_G} {cy : Nat → ClassId} {sa : Nat → Nat} {de B : Nat} {ad : Ad} {S : St} {n : Nat → Nat} {th : Int32} {f : Nat → Int64} {g9 : Nat → UInt64} {b L : Nat} {xs : Nat → Int32} {j : Nat} (hfl : l.stackTraces = false) (hC : Cx p m c cL_law 9 s args RL D cy sa de B) (hS : va_S (AB B) s.heap H locs) (hX : va_X b L xs s s.heap) (hbl : b < s.heap.size) (hbA : ¬ AB B b) (hL : L ≤ 2560) (hi : 5 * j + 4 < L) (hl : lo ls 9 (LW b ad (nI (5 * j)) none none none)) (hG : GW D B ad (Vw cy de ad S n S n th (Xl cy f g9)) H) (hI : Inv S n) (hroom : cells + 9 ≤ 601024 ∧ slots + 56 ≤ 7293034) (k0 : cd_enter S n (xs (5 * j + 1)) (xs (5 * j + 2)) = 0 → ∀ (ad9 : Ad) (f2 : Nat → Int64) (g2 : Nat → UInt64) (H1 : Heap) (locs1 : List Loc) (ls1 : Array Slot), GW D B ad9 (Vw cy de ad9 (enS S (ci (xs (5 * j + 1))) (ci (xs (5 * j + 2)))) (n) (enS S (ci (xs (5 * j + 1))) (ci (xs (5 * j + 2)))) (n) 0 (Xl cy f2 g2)) H1 → va_S (AB B) s.heap H1 locs1 → lo ls1 9 (LW b ad9 (nI (5 * j)) none none none) → W p l e room_1 s m args below meth c H1 locs1 (cells + 9) (slots + 56) Q (F0 m 2593 ls1 [])) (k1 : ∀ (th9 : Int32) (H1 : Heap) (locs1 : List Loc) (ls1 : Array Slot), GW D B ad (Vw cy de ad S n S n th9 (Xl cy f g9)) H1 → va_S (AB B) s.heap H1 locs1 → lo ls1 9 (LW b ad (nI (5 * j)) none none none) → W p l e room_1 s m args below meth c H1 locs1 (cells + 9) (slots + 56) Q (F0 m 2593 ls1 [])) : W p l e room_1 s m args below meth c H locs cells slots Q (F0 m 1408 ls []) := by
  have hx := hC.x
  have hb := hC.b
  refine o_aload_n hx hb dL_law_1408 hl rfl ?_
  refine g_arg hC hS hX hbl hbA hL hi (q := 1) (by decide) hl rfl rfl (z := 1) rfl dL_law_1409 dL_law_1410 dL_law_1412 dL_law_1413 dL_law_1414 ?_
  refine g_arg hC hS hX hbl hbA hL hi (q := 2) (by decide) hl rfl rfl (z := 2) rfl dL_law_1415 dL_law_1416 dL_law_1418 dL_law_1419 dL_law_1420 ?_
  refine o_aload_n hx hb dL_law_1421 hl rfl ?_
  refine k_L_enter hfl hC hS hG hI ml_L_206 ⟨(Nat.le_of_ble_eq_true rfl), (Nat.le_of_ble_eq_true rfl)⟩ hl.1 (Nat.le_of_ble_eq_true rfl) dL_law_1422 ⟨show cells + 3 ≤ 601024 by omega, show slots + 18 ≤ 7293034 by omega⟩ (fun h0 ad9 H locs hA hG hS => ?_) (fun t9 ht4 ht0 h1 H locs hG hS => ?_)
  · have hl := LW_ag hA hl
    refine o_istore hx hb dL_law_1425 hl (by decide) rfl (fun ls hl => ?_)
    refine o_aload_n hx hb dL_law_1427 hl rfl ?_
    refine g_arg hC hS hX hbl hbA hL hi (q := 1) (by decide) hl rfl rfl (z := 1) rfl dL_law_1428 dL_law_1429 dL_law_1431 dL_law_1432 dL_law_1433 ?_
    refine g_arg hC hS hX hbl hbA hL hi (q := 2) (by decide) hl rfl rfl (z := 2) rfl dL_law_1434 dL_law_1435 dL_law_1437 dL_law_1438 dL_law_1439 ?_
    refine k_X7_enter hC hS hG hI ml_L_208 ⟨(Nat.le_of_ble_eq_true rfl), (Nat.le_of_ble_eq_true rfl)⟩ hl.1 (Nat.le_of_ble_eq_true rfl) dL_law_1440 ⟨show cells + 3 + 0 ≤ 601024 by omega, show slots + 18 + 0 ≤ 7293034 by omega⟩ (fun _ H locs hG hS => ?_) (fun _ t8 h8 h9 => absurd (h8.symm.trans h0) h9)
    refine o_istore hx hb dL_law_1443 hl (by decide) rfl (fun ls hl => ?_)
    refine o_aload_n hx hb dL_law_1445 hl rfl ?_
    refine k_X7_thrown hC hS hG trivial ml_L_144 ⟨(Nat.le_of_ble_eq_true rfl), (Nat.le_of_ble_eq_true rfl)⟩ hl.1 (Nat.le_of_ble_eq_true rfl) dL_law_1446 ⟨show cells + 3 + 0 + 0 ≤ 601024 by omega, show slots + 18 + 0 + 0 ≤ 7293034 by omega⟩ ?_
    refine o_iload hx hb dL_law_1449 hl rfl ?_
    refine lv_icmp_eq (tgt := 1456) hx hb dL_law_1451 (by decide) (fun _ => ?_) (fun h => absurd rfl h)
    refine o_iload hx hb dL_law_1456 hl rfl ?_
    refine lv_if_ne (tgt := 1473) hx hb dL_law_1458 (by decide) (fun h => absurd rfl h) (fun _ => ?_)
    refine o_aload_n hx hb dL_law_1461 hl rfl ?_
    refine lv_iconst (v := 0) hx hb dL_law_1462 (by decide) ?_
    refine g_lald hC hG V_out 0 rfl (by decide) (by decide) dL_law_1463 ?_
    refine bl_0 (x := (Int32.toInt64 (cnt (entP (enS S (ci (xs (5 * j + 1))) (ci (xs (5 * j + 2)))) (ci (xs (5 * j + 1)))) 16))) pk_uLs.symm ?_
    refine o_iload hx hb dL_law_1464 hl rfl ?_
    refine lv_i2l hx hb dL_law_1466 rfl ?_
    refine lv_lcmpE hx hb dL_law_1467 ?_
    refine lv_if_eq (tgt := 1473) hx hb dL_law_1468 (by decide) (fun _ => ?_) (fun h => absurd rfl h)
    refine lv_goto (tgt := 2593) hx hb dL_law_1473 (by decide) ?_
    refine W.widen (k := cells + 9) (n := slots + 56) (by omega) (by omega) ?_
    exact k0 h0 ad9 _ _ _ _ _ hG hS (LW_no hl)
  · have ht9 := nI_4 ht4 ht0
    refine o_istore hx hb dL_law_1425 hl (by decide) rfl (fun ls hl => ?_)
    refine o_aload_n hx hb dL_law_1427 hl rfl ?_
    refine g_arg hC hS hX hbl hbA hL hi (q := 1) (by decide) hl rfl rfl (z := 1) rfl dL_law_1428 dL_law_1429 dL_law_1431 dL_law_1432 dL_law_1433 ?_
    refine g_arg hC hS hX hbl hbA hL hi (q := 2) (by decide) hl rfl rfl (z := 2) rfl dL_law_1434 dL_law_1435 dL_law_1437 dL_law_1438 dL_law_1439 ?_
    refine k_X7_enter hC hS hG hI ml_L_208 ⟨(Nat.le_of_ble_eq_true rfl), (Nat.le_of_ble_eq_true rfl)⟩ hl.1 (Nat.le_of_ble_eq_true rfl) dL_law_1440 ⟨show cells + 3 + 0 ≤ 601024 by omega, show slots + 18 + 0 ≤ 7293034 by omega⟩ (fun h8 => absurd (h1.symm.trans h8) ht0) (fun r9 t8 h8 h9 H locs hG hS => ?_)
    obtain rfl : t8 = t9 := h8.symm.trans h1
    refine o_istore hx hb dL_law_1443 hl (by decide) rfl (fun ls hl => ?_)
    refine o_aload_n hx hb dL_law_1445 hl rfl ?_
    refine k_X7_thrown hC hS hG trivial ml_L_144 ⟨(Nat.le_of_ble_eq_true rfl), (Nat.le_of_ble_eq_true rfl)⟩ hl.1 (Nat.le_of_ble_eq_true rfl) dL_law_1446 ⟨show cells + 3 + 0 + 0 ≤ 601024 by omega, show slots + 18 + 0 + 0 ≤ 7293034 by omega⟩ ?_
    refine o_iload hx hb dL_law_1449 hl rfl ?_
    refine lv_icmp_eq (tgt := 1456) hx hb dL_law_1451 (by decide) (fun _ => ?_) (fun h => absurd rfl h)
    refine o_iload hx hb dL_law_1456 hl rfl ?_
    refine lv_if_ne (tgt := 1473) hx hb dL_law_1458 (by decide) (fun _ => ?_) (fun h => absurd h ht9)
    refine lv_goto (tgt := 2593) hx hb dL_law_1473 (by decide) ?_
    refine W.widen (k := cells + 9) (n := slots + 56) (by omega) (by omega) ?_
    exact k1 _ _ _ _ hG hS (LW_no hl)
set_option maxHeartbeats 4000000 in
set_option maxRecDepth 100000 in
theorem q_begin {p : Program} {l : Launch} {e : Env} {s : State} {m : MethodId} {args : Array Value} {below : List Frame} {meth : Method} {c : Code} {H : Heap} {locs : List Loc} {cells slots : Nat} {Q : State → Prop} {ls : Array Slot} {D : va_G} {cy : Nat → ClassId} {sa : Nat → Nat} {de B : Nat} {ad : Ad} {S : St} {n : Nat → Nat} {th : Int32} {f : Nat → Int64} {g9 : Nat → UInt64} {b L : Nat} {xs : Nat → Int32} {j : Nat} (hfl : l.stackTraces = false) (hC : Cx p m c cL_law 9 s args RL D cy sa de B) (hS : va_S (AB B) s.heap H locs) (hX : va_X b L xs s s.heap) (hbl : b < s.heap.size) (hbA : ¬ AB B b) (hL : L ≤ 2560) (hi : 5 * j + 4 < L) (hl : lo ls 9 (LW b ad (nI (5 * j)) none none none)) (hG : GW D B ad (Vw cy de ad S n S n th (Xl cy f g9)) H) (hI : Inv S n) (hroom : cells + 9 ≤ 601024 ∧ slots + 56 ≤ 7293034) (k0 : cd_begin S n (xs (5 * j + 1)) = 0 → ∀ (ad9 : Ad) (f2 : Nat → Int64) (g2 : Nat → UInt64) (H1 : Heap) (locs1 : List Loc) (ls1 : Array Slot), GW D B ad9 (Vw cy de ad9 (up3 S 18 (ci (xs (5 * j + 1))) 0 1) n (up3 S 18 (ci (xs (5 * j + 1))) 0 1) n 0 (Xl cy f2 g2)) H1 → va_S (AB B) s.heap H1 locs1 → lo ls1 9 (LW b ad9 (nI (5 * j)) none none none) → W p l e room_1 s m args below meth c H1 locs1 (cells + 9) (slots + 56) Q (F0 m 2593 ls1 [])) (k1 : ∀ (th9 : Int32) (H1 : Heap) (locs1 : List Loc) (ls1 : Array Slot), GW D B ad (Vw cy de ad S n S n th9 (Xl cy f g9)) H1 → va_S (AB B) s.heap H1 locs1 → lo ls1 9 (LW b ad (nI (5 * j)) none none none) → W p l e room_1 s m args below meth c H1 locs1 (cells + 9) (slots + 56) Q (F0 m 2593 ls1 [])) : W p l e room_1 s m args below meth c H locs cells slots Q (F0 m 1476 ls []) := by
  have hx := hC.x
  have hb := hC.b
  refine o_aload_n hx hb dL_law_1476 hl rfl ?_
  refine g_arg hC hS hX hbl hbA hL hi (q := 1) (by decide) hl rfl rfl (z := 1) rfl dL_law_1477 dL_law_1478 dL_law_1480 dL_law_1481 dL_law_1482 ?_
  refine o_aload_n hx hb dL_law_1483 hl rfl ?_
  refine k_L_begin hfl hC hS hG hI ml_L_209 ⟨(Nat.le_of_ble_eq_true rfl), (Nat.le_of_ble_eq_true rfl)⟩ hl.1 (Nat.le_of_ble_eq_true rfl) dL_law_1484 ⟨show cells + 2 ≤ 601024 by omega, show slots + 12 ≤ 7293034 by omega⟩ (fun h0 ad9 H locs hA hG hS => ?_) (fun t9 ht4 ht0 h1 H locs hG hS => ?_)
  · have hl := LW_ag hA hl
    refine o_istore hx hb dL_law_1487 hl (by decide) rfl (fun ls hl => ?_)
    refine o_aload_n hx hb dL_law_1489 hl rfl ?_
    refine g_arg hC hS hX hbl hbA hL hi (q := 1) (by decide) hl rfl rfl (z := 1) rfl dL_law_1490 dL_law_1491 dL_law_1493 dL_law_1494 dL_law_1495 ?_
    refine k_X7_begin hC hS hG hI ml_L_211 ⟨(Nat.le_of_ble_eq_true rfl), (Nat.le_of_ble_eq_true rfl)⟩ hl.1 (Nat.le_of_ble_eq_true rfl) dL_law_1496 ⟨show cells + 2 + 0 ≤ 601024 by omega, show slots + 12 + 0 ≤ 7293034 by omega⟩ (fun _ H locs hG hS => ?_) (fun _ t8 h8 h9 => absurd (h8.symm.trans h0) h9)
    refine o_istore hx hb dL_law_1499 hl (by decide) rfl (fun ls hl => ?_)
    refine o_aload_n hx hb dL_law_1501 hl rfl ?_
    refine k_X7_thrown hC hS hG trivial ml_L_144 ⟨(Nat.le_of_ble_eq_true rfl), (Nat.le_of_ble_eq_true rfl)⟩ hl.1 (Nat.le_of_ble_eq_true rfl) dL_law_1502 ⟨show cells + 2 + 0 + 0 ≤ 601024 by omega, show slots + 12 + 0 + 0 ≤ 7293034 by omega⟩ ?_
    refine o_iload hx hb dL_law_1505 hl rfl ?_
    refine lv_icmp_eq (tgt := 1512) hx hb dL_law_1507 (by decide) (fun _ => ?_) (fun h => absurd rfl h)
    refine o_iload hx hb dL_law_1512 hl rfl ?_
    refine lv_if_ne (tgt := 1529) hx hb dL_law_1514 (by decide) (fun h => absurd rfl h) (fun _ => ?_)
    refine o_aload_n hx hb dL_law_1517 hl rfl ?_
    refine lv_iconst (v := 0) hx hb dL_law_1518 (by decide) ?_
    refine g_lald hC hG V_out 0 rfl (by decide) (by decide) dL_law_1519 ?_
    refine bl_0 (x := (Int32.toInt64 (cnt (stP S (ci (xs (5 * j + 1)))) 16))) pk_uLs.symm ?_
    refine o_iload hx hb dL_law_1520 hl rfl ?_
    refine lv_i2l hx hb dL_law_1522 rfl ?_
    refine lv_lcmpE hx hb dL_law_1523 ?_
    refine lv_if_eq (tgt := 1529) hx hb dL_law_1524 (by decide) (fun _ => ?_) (fun h => absurd rfl h)
    refine lv_goto (tgt := 2593) hx hb dL_law_1529 (by decide) ?_
    refine W.widen (k := cells + 9) (n := slots + 56) (by omega) (by omega) ?_
    exact k0 h0 ad9 _ _ _ _ _ hG hS (LW_no hl)
  · have ht9 := nI_4 ht4 ht0
    refine o_istore hx hb dL_law_1487 hl (by decide) rfl (fun ls hl => ?_)
    refine o_aload_n hx hb dL_law_1489 hl rfl ?_
    refine g_arg hC hS hX hbl hbA hL hi (q := 1) (by decide) hl rfl rfl (z := 1) rfl dL_law_1490 dL_law_1491 dL_law_1493 dL_law_1494 dL_law_1495 ?_
    refine k_X7_begin hC hS hG hI ml_L_211 ⟨(Nat.le_of_ble_eq_true rfl), (Nat.le_of_ble_eq_true rfl)⟩ hl.1 (Nat.le_of_ble_eq_true rfl) dL_law_1496 ⟨show cells + 2 + 0 ≤ 601024 by omega, show slots + 12 + 0 ≤ 7293034 by omega⟩ (fun h8 => absurd (h1.symm.trans h8) ht0) (fun r9 t8 h8 h9 H locs hG hS => ?_)
    obtain rfl : t8 = t9 := h8.symm.trans h1
    refine o_istore hx hb dL_law_1499 hl (by decide) rfl (fun ls hl => ?_)
    refine o_aload_n hx hb dL_law_1501 hl rfl ?_
    refine k_X7_thrown hC hS hG trivial ml_L_144 ⟨(Nat.le_of_ble_eq_true rfl), (Nat.le_of_ble_eq_true rfl)⟩ hl.1 (Nat.le_of_ble_eq_true rfl) dL_law_1502 ⟨show cells + 2 + 0 + 0 ≤ 601024 by omega, show slots + 12 + 0 + 0 ≤ 7293034 by omega⟩ ?_
    refine o_iload hx hb dL_law_1505 hl rfl ?_
    refine lv_icmp_eq (tgt := 1512) hx hb dL_law_1507 (by decide) (fun _ => ?_) (fun h => absurd rfl h)
    refine o_iload hx hb dL_law_1512 hl rfl ?_
    refine lv_if_ne (tgt := 1529) hx hb dL_law_1514 (by decide) (fun _ => ?_) (fun h => absurd h ht9)
    refine lv_goto (tgt := 2593) hx hb dL_law_1529 (by decide) ?_
    refine W.widen (k := cells + 9) (n := slots + 56) (by omega) (by omega) ?_
    exact k1 _ _ _ _ hG hS (LW_no hl)
set_option maxHeartbeats 4000000 in
set_option maxRecDepth 100000 in
theorem q_result {p : Program} {l : Launch} {e : Env} {s : State} {m : MethodId} {args : Array Value} {below : List Frame} {meth : Method} {c : Code} {H : Heap} {locs : List Loc} {cells slots : Nat} {Q : State → Prop} {ls : Array Slot} {D : va_G} {cy : Nat → ClassId} {sa : Nat → Nat} {de B : Nat} {ad : Ad} {S : St} {n : Nat → Nat} {th : Int32} {f : Nat → Int64} {g9 : Nat → UInt64} {b L : Nat} {xs : Nat → Int32} {j : Nat} (hfl : l.stackTraces = false) (hC : Cx p m c cL_law 9 s args RL D cy sa de B) (hS : va_S (AB B) s.heap H locs) (hX : va_X b L xs s s.heap) (hbl : b < s.heap.size) (hbA : ¬ AB B b) (hL : L ≤ 2560) (hi : 5 * j + 4 < L) (hl : lo ls 9 (LW b ad (nI (5 * j)) none none none)) (hG : GW D B ad (Vw cy de ad S n S n th (Xl cy f g9)) H) (hI : Inv S n) (hroom : cells + 9 ≤ 601024 ∧ slots + 56 ≤ 7293034) (k0 : cd_result S n (xs (5 * j + 1)) (xs (5 * j + 2)) (xs (5 * j + 3)) (xs (5 * j + 4)) = 0 → ∀ (ad9 : Ad) (f2 : Nat → Int64) (g2 : Nat → UInt64) (H1 : Heap) (locs1 : List Loc) (ls1 : Array Slot), GW D B ad9 (Vw cy de ad9 (reS S (ci (xs (5 * j + 1))) (ci (xs (5 * j + 2))) (xs (5 * j + 3)) (xs (5 * j + 4))) n (reS S (ci (xs (5 * j + 1))) (ci (xs (5 * j + 2))) (xs (5 * j + 3)) (xs (5 * j + 4))) n 0 (Xl cy f2 g2)) H1 → va_S (AB B) s.heap H1 locs1 → lo ls1 9 (LW b ad9 (nI (5 * j)) none none none) → W p l e room_1 s m args below meth c H1 locs1 (cells + 9) (slots + 56) Q (F0 m 2593 ls1 [])) (k1 : ∀ (th9 : Int32) (H1 : Heap) (locs1 : List Loc) (ls1 : Array Slot), GW D B ad (Vw cy de ad S n S n th9 (Xl cy f g9)) H1 → va_S (AB B) s.heap H1 locs1 → lo ls1 9 (LW b ad (nI (5 * j)) none none none) → W p l e room_1 s m args below meth c H1 locs1 (cells + 9) (slots + 56) Q (F0 m 2593 ls1 [])) : W p l e room_1 s m args below meth c H locs cells slots Q (F0 m 1532 ls []) := by
  have hx := hC.x
  have hb := hC.b
  refine o_aload_n hx hb dL_law_1532 hl rfl ?_
  refine g_arg hC hS hX hbl hbA hL hi (q := 1) (by decide) hl rfl rfl (z := 1) rfl dL_law_1533 dL_law_1534 dL_law_1536 dL_law_1537 dL_law_1538 ?_
  refine g_arg hC hS hX hbl hbA hL hi (q := 2) (by decide) hl rfl rfl (z := 2) rfl dL_law_1539 dL_law_1540 dL_law_1542 dL_law_1543 dL_law_1544 ?_
  refine g_arg hC hS hX hbl hbA hL hi (q := 3) (by decide) hl rfl rfl (z := 3) rfl dL_law_1545 dL_law_1546 dL_law_1548 dL_law_1549 dL_law_1550 ?_
  refine g_arg hC hS hX hbl hbA hL hi (q := 4) (by decide) hl rfl rfl (z := 4) rfl dL_law_1551 dL_law_1552 dL_law_1554 dL_law_1555 dL_law_1556 ?_
  refine o_aload_n hx hb dL_law_1557 hl rfl ?_
  refine k_L_result hfl hC hS hG hI ml_L_212 ⟨(Nat.le_of_ble_eq_true rfl), (Nat.le_of_ble_eq_true rfl)⟩ hl.1 (Nat.le_of_ble_eq_true rfl) dL_law_1558 ⟨show cells + 3 ≤ 601024 by omega, show slots + 18 ≤ 7293034 by omega⟩ (fun h0 ad9 H locs hA hG hS => ?_) (fun t9 ht4 ht0 h1 H locs hG hS => ?_)
  · have hl := LW_ag hA hl
    refine o_istore hx hb dL_law_1561 hl (by decide) rfl (fun ls hl => ?_)
    refine o_aload_n hx hb dL_law_1563 hl rfl ?_
    refine g_arg hC hS hX hbl hbA hL hi (q := 1) (by decide) hl rfl rfl (z := 1) rfl dL_law_1564 dL_law_1565 dL_law_1567 dL_law_1568 dL_law_1569 ?_
    refine g_arg hC hS hX hbl hbA hL hi (q := 2) (by decide) hl rfl rfl (z := 2) rfl dL_law_1570 dL_law_1571 dL_law_1573 dL_law_1574 dL_law_1575 ?_
    refine g_arg hC hS hX hbl hbA hL hi (q := 3) (by decide) hl rfl rfl (z := 3) rfl dL_law_1576 dL_law_1577 dL_law_1579 dL_law_1580 dL_law_1581 ?_
    refine g_arg hC hS hX hbl hbA hL hi (q := 4) (by decide) hl rfl rfl (z := 4) rfl dL_law_1582 dL_law_1583 dL_law_1585 dL_law_1586 dL_law_1587 ?_
    refine k_X7_result hC hS hG hI ml_L_214 ⟨(Nat.le_of_ble_eq_true rfl), (Nat.le_of_ble_eq_true rfl)⟩ hl.1 (Nat.le_of_ble_eq_true rfl) dL_law_1588 ⟨show cells + 3 + 0 ≤ 601024 by omega, show slots + 18 + 0 ≤ 7293034 by omega⟩ (fun _ H locs hG hS => ?_) (fun _ t8 h8 h9 => absurd (h8.symm.trans h0) h9)
    refine o_istore hx hb dL_law_1591 hl (by decide) rfl (fun ls hl => ?_)
    refine o_aload_n hx hb dL_law_1593 hl rfl ?_
    refine k_X7_thrown hC hS hG trivial ml_L_144 ⟨(Nat.le_of_ble_eq_true rfl), (Nat.le_of_ble_eq_true rfl)⟩ hl.1 (Nat.le_of_ble_eq_true rfl) dL_law_1594 ⟨show cells + 3 + 0 + 0 ≤ 601024 by omega, show slots + 18 + 0 + 0 ≤ 7293034 by omega⟩ ?_
    refine o_iload hx hb dL_law_1597 hl rfl ?_
    refine lv_icmp_eq (tgt := 1604) hx hb dL_law_1599 (by decide) (fun _ => ?_) (fun h => absurd rfl h)
    refine o_iload hx hb dL_law_1604 hl rfl ?_
    refine lv_if_ne (tgt := 1621) hx hb dL_law_1606 (by decide) (fun h => absurd rfl h) (fun _ => ?_)
    refine o_aload_n hx hb dL_law_1609 hl rfl ?_
    refine lv_iconst (v := 0) hx hb dL_law_1610 (by decide) ?_
    refine g_lald hC hG V_out 0 rfl (by decide) (by decide) dL_law_1611 ?_
    refine bl_0 (x := (Int32.toInt64 (vl_result S (ci (xs (5 * j + 1))) (ci (xs (5 * j + 2))) (xs (5 * j + 3)) (xs (5 * j + 4))))) pk_uLs.symm ?_
    refine o_iload hx hb dL_law_1612 hl rfl ?_
    refine lv_i2l hx hb dL_law_1614 rfl ?_
    refine lv_lcmpE hx hb dL_law_1615 ?_
    refine lv_if_eq (tgt := 1621) hx hb dL_law_1616 (by decide) (fun _ => ?_) (fun h => absurd rfl h)
    refine lv_goto (tgt := 2593) hx hb dL_law_1621 (by decide) ?_
    refine W.widen (k := cells + 9) (n := slots + 56) (by omega) (by omega) ?_
    exact k0 h0 ad9 _ _ _ _ _ hG hS (LW_no hl)
  · have ht9 := nI_4 ht4 ht0
    refine o_istore hx hb dL_law_1561 hl (by decide) rfl (fun ls hl => ?_)
    refine o_aload_n hx hb dL_law_1563 hl rfl ?_
    refine g_arg hC hS hX hbl hbA hL hi (q := 1) (by decide) hl rfl rfl (z := 1) rfl dL_law_1564 dL_law_1565 dL_law_1567 dL_law_1568 dL_law_1569 ?_
    refine g_arg hC hS hX hbl hbA hL hi (q := 2) (by decide) hl rfl rfl (z := 2) rfl dL_law_1570 dL_law_1571 dL_law_1573 dL_law_1574 dL_law_1575 ?_
    refine g_arg hC hS hX hbl hbA hL hi (q := 3) (by decide) hl rfl rfl (z := 3) rfl dL_law_1576 dL_law_1577 dL_law_1579 dL_law_1580 dL_law_1581 ?_
    refine g_arg hC hS hX hbl hbA hL hi (q := 4) (by decide) hl rfl rfl (z := 4) rfl dL_law_1582 dL_law_1583 dL_law_1585 dL_law_1586 dL_law_1587 ?_
    refine k_X7_result hC hS hG hI ml_L_214 ⟨(Nat.le_of_ble_eq_true rfl), (Nat.le_of_ble_eq_true rfl)⟩ hl.1 (Nat.le_of_ble_eq_true rfl) dL_law_1588 ⟨show cells + 3 + 0 ≤ 601024 by omega, show slots + 18 + 0 ≤ 7293034 by omega⟩ (fun h8 => absurd (h1.symm.trans h8) ht0) (fun r9 t8 h8 h9 H locs hG hS => ?_)
    obtain rfl : t8 = t9 := h8.symm.trans h1
    refine o_istore hx hb dL_law_1591 hl (by decide) rfl (fun ls hl => ?_)
    refine o_aload_n hx hb dL_law_1593 hl rfl ?_
    refine k_X7_thrown hC hS hG trivial ml_L_144 ⟨(Nat.le_of_ble_eq_true rfl), (Nat.le_of_ble_eq_true rfl)⟩ hl.1 (Nat.le_of_ble_eq_true rfl) dL_law_1594 ⟨show cells + 3 + 0 + 0 ≤ 601024 by omega, show slots + 18 + 0 + 0 ≤ 7293034 by omega⟩ ?_
    refine o_iload hx hb dL_law_1597 hl rfl ?_
    refine lv_icmp_eq (tgt := 1604) hx hb dL_law_1599 (by decide) (fun _ => ?_) (fun h => absurd rfl h)
    refine o_iload hx hb dL_law_1604 hl rfl ?_
    refine lv_if_ne (tgt := 1621) hx hb dL_law_1606 (by decide) (fun _ => ?_) (fun h => absurd h ht9)
    refine lv_goto (tgt := 2593) hx hb dL_law_1621 (by decide) ?_
    refine W.widen (k := cells + 9) (n := slots + 56) (by omega) (by omega) ?_
    exact k1 _ _ _ _ hG hS (LW_no hl)
set_option maxHeartbeats 4000000 in
set_option maxRecDepth 100000 in
theorem q_fell {p : Program} {l : Launch} {e : Env} {s : State} {m : MethodId} {args : Array Value} {below : List Frame} {meth : Method} {c : Code} {H : Heap} {locs : List Loc} {cells slots : Nat} {Q : State → Prop} {ls : Array Slot} {D : va_G} {cy : Nat → ClassId} {sa : Nat → Nat} {de B : Nat} {ad : Ad} {S : St} {n : Nat → Nat} {th : Int32} {f : Nat → Int64} {g9 : Nat → UInt64} {b L : Nat} {xs : Nat → Int32} {j : Nat} (hfl : l.stackTraces = false) (hC : Cx p m c cL_law 9 s args RL D cy sa de B) (hS : va_S (AB B) s.heap H locs) (hX : va_X b L xs s s.heap) (hbl : b < s.heap.size) (hbA : ¬ AB B b) (hL : L ≤ 2560) (hi : 5 * j + 4 < L) (hl : lo ls 9 (LW b ad (nI (5 * j)) none none none)) (hG : GW D B ad (Vw cy de ad S n S n th (Xl cy f g9)) H) (hI : Inv S n) (hroom : cells + 9 ≤ 601024 ∧ slots + 56 ≤ 7293034) (k0 : cd_ent S n (xs (5 * j + 1)) (xs (5 * j + 2)) = 0 → ∀ (ad9 : Ad) (f2 : Nat → Int64) (g2 : Nat → UInt64) (H1 : Heap) (locs1 : List Loc) (ls1 : Array Slot), GW D B ad9 (Vw cy de ad9 S n S n 0 (Xl cy f2 g2)) H1 → va_S (AB B) s.heap H1 locs1 → lo ls1 9 (LW b ad9 (nI (5 * j)) none none none) → W p l e room_1 s m args below meth c H1 locs1 (cells + 9) (slots + 56) Q (F0 m 2593 ls1 [])) (k1 : ∀ (th9 : Int32) (H1 : Heap) (locs1 : List Loc) (ls1 : Array Slot), GW D B ad (Vw cy de ad S n S n th9 (Xl cy f g9)) H1 → va_S (AB B) s.heap H1 locs1 → lo ls1 9 (LW b ad (nI (5 * j)) none none none) → W p l e room_1 s m args below meth c H1 locs1 (cells + 9) (slots + 56) Q (F0 m 2593 ls1 [])) : W p l e room_1 s m args below meth c H locs cells slots Q (F0 m 1624 ls []) := by
  have hx := hC.x
  have hb := hC.b
  refine o_aload_n hx hb dL_law_1624 hl rfl ?_
  refine g_arg hC hS hX hbl hbA hL hi (q := 1) (by decide) hl rfl rfl (z := 1) rfl dL_law_1625 dL_law_1626 dL_law_1628 dL_law_1629 dL_law_1630 ?_
  refine g_arg hC hS hX hbl hbA hL hi (q := 2) (by decide) hl rfl rfl (z := 2) rfl dL_law_1631 dL_law_1632 dL_law_1634 dL_law_1635 dL_law_1636 ?_
  refine o_aload_n hx hb dL_law_1637 hl rfl ?_
  refine k_L_fell hfl hC hS hG hI ml_L_215 ⟨(Nat.le_of_ble_eq_true rfl), (Nat.le_of_ble_eq_true rfl)⟩ hl.1 (Nat.le_of_ble_eq_true rfl) dL_law_1638 ⟨show cells + 3 ≤ 601024 by omega, show slots + 18 ≤ 7293034 by omega⟩ (fun h0 ad9 H locs hA hG hS => ?_) (fun t9 ht4 ht0 h1 H locs hG hS => ?_)
  · have hl := LW_ag hA hl
    refine o_istore hx hb dL_law_1641 hl (by decide) rfl (fun ls hl => ?_)
    refine o_aload_n hx hb dL_law_1643 hl rfl ?_
    refine g_arg hC hS hX hbl hbA hL hi (q := 1) (by decide) hl rfl rfl (z := 1) rfl dL_law_1644 dL_law_1645 dL_law_1647 dL_law_1648 dL_law_1649 ?_
    refine g_arg hC hS hX hbl hbA hL hi (q := 2) (by decide) hl rfl rfl (z := 2) rfl dL_law_1650 dL_law_1651 dL_law_1653 dL_law_1654 dL_law_1655 ?_
    refine k_X7_fell hC hS hG hI ml_L_217 ⟨(Nat.le_of_ble_eq_true rfl), (Nat.le_of_ble_eq_true rfl)⟩ hl.1 (Nat.le_of_ble_eq_true rfl) dL_law_1656 ⟨show cells + 3 + 0 ≤ 601024 by omega, show slots + 18 + 0 ≤ 7293034 by omega⟩ (fun _ H locs hG hS => ?_) (fun _ t8 h8 h9 => absurd (h8.symm.trans h0) h9)
    refine o_istore hx hb dL_law_1659 hl (by decide) rfl (fun ls hl => ?_)
    refine o_aload_n hx hb dL_law_1661 hl rfl ?_
    refine k_X7_thrown hC hS hG trivial ml_L_144 ⟨(Nat.le_of_ble_eq_true rfl), (Nat.le_of_ble_eq_true rfl)⟩ hl.1 (Nat.le_of_ble_eq_true rfl) dL_law_1662 ⟨show cells + 3 + 0 + 0 ≤ 601024 by omega, show slots + 18 + 0 + 0 ≤ 7293034 by omega⟩ ?_
    refine o_iload hx hb dL_law_1665 hl rfl ?_
    refine lv_icmp_eq (tgt := 1672) hx hb dL_law_1667 (by decide) (fun _ => ?_) (fun h => absurd rfl h)
    refine o_iload hx hb dL_law_1672 hl rfl ?_
    refine lv_if_ne (tgt := 1696) hx hb dL_law_1674 (by decide) (fun h => absurd rfl h) (fun _ => ?_)
    refine o_aload_n hx hb dL_law_1677 hl rfl ?_
    refine lv_iconst (v := 0) hx hb dL_law_1678 (by decide) ?_
    refine g_lald hC hG V_out 0 rfl (by decide) (by decide) dL_law_1679 ?_
    refine bl_0 (x := (if (S 21 (ci (xs (5 * j + 1))) (ci (xs (5 * j + 2)))) = 0 then (0 : Int64) else 1)) pk_uLs.symm ?_
    refine o_iload hx hb dL_law_1680 hl rfl ?_
    refine lv_if_eq (tgt := 1689) hx hb dL_law_1682 (by decide) (fun h8 => ?_) (fun h8 => ?_)
    · refine lv_lconst hx hb dL_law_1689 rfl ?_
      refine bl_1 (if_pos h8).symm ?_
      refine lv_lcmpE hx hb dL_law_1690 ?_
      refine lv_if_eq (tgt := 1696) hx hb dL_law_1691 (by decide) (fun _ => ?_) (fun h => absurd rfl h)
      refine lv_goto (tgt := 2593) hx hb dL_law_1696 (by decide) ?_
      refine W.widen (k := cells + 9) (n := slots + 56) (by omega) (by omega) ?_
      exact k0 h0 ad9 _ _ _ _ _ hG hS (LW_no hl)
    · refine lv_lconst hx hb dL_law_1685 rfl ?_
      refine lv_goto (tgt := 1690) hx hb dL_law_1686 (by decide) ?_
      refine bl_1 (if_neg h8).symm ?_
      refine lv_lcmpE hx hb dL_law_1690 ?_
      refine lv_if_eq (tgt := 1696) hx hb dL_law_1691 (by decide) (fun _ => ?_) (fun h => absurd rfl h)
      refine lv_goto (tgt := 2593) hx hb dL_law_1696 (by decide) ?_
      refine W.widen (k := cells + 9) (n := slots + 56) (by omega) (by omega) ?_
      exact k0 h0 ad9 _ _ _ _ _ hG hS (LW_no hl)
  · have ht9 := nI_4 ht4 ht0
    refine o_istore hx hb dL_law_1641 hl (by decide) rfl (fun ls hl => ?_)
    refine o_aload_n hx hb dL_law_1643 hl rfl ?_
    refine g_arg hC hS hX hbl hbA hL hi (q := 1) (by decide) hl rfl rfl (z := 1) rfl dL_law_1644 dL_law_1645 dL_law_1647 dL_law_1648 dL_law_1649 ?_
    refine g_arg hC hS hX hbl hbA hL hi (q := 2) (by decide) hl rfl rfl (z := 2) rfl dL_law_1650 dL_law_1651 dL_law_1653 dL_law_1654 dL_law_1655 ?_
    refine k_X7_fell hC hS hG hI ml_L_217 ⟨(Nat.le_of_ble_eq_true rfl), (Nat.le_of_ble_eq_true rfl)⟩ hl.1 (Nat.le_of_ble_eq_true rfl) dL_law_1656 ⟨show cells + 3 + 0 ≤ 601024 by omega, show slots + 18 + 0 ≤ 7293034 by omega⟩ (fun h8 => absurd (h1.symm.trans h8) ht0) (fun r9 t8 h8 h9 H locs hG hS => ?_)
    obtain rfl : t8 = t9 := h8.symm.trans h1
    refine o_istore hx hb dL_law_1659 hl (by decide) rfl (fun ls hl => ?_)
    refine o_aload_n hx hb dL_law_1661 hl rfl ?_
    refine k_X7_thrown hC hS hG trivial ml_L_144 ⟨(Nat.le_of_ble_eq_true rfl), (Nat.le_of_ble_eq_true rfl)⟩ hl.1 (Nat.le_of_ble_eq_true rfl) dL_law_1662 ⟨show cells + 3 + 0 + 0 ≤ 601024 by omega, show slots + 18 + 0 + 0 ≤ 7293034 by omega⟩ ?_
    refine o_iload hx hb dL_law_1665 hl rfl ?_
    refine lv_icmp_eq (tgt := 1672) hx hb dL_law_1667 (by decide) (fun _ => ?_) (fun h => absurd rfl h)
    refine o_iload hx hb dL_law_1672 hl rfl ?_
    refine lv_if_ne (tgt := 1696) hx hb dL_law_1674 (by decide) (fun _ => ?_) (fun h => absurd h ht9)
    refine lv_goto (tgt := 2593) hx hb dL_law_1696 (by decide) ?_
    refine W.widen (k := cells + 9) (n := slots + 56) (by omega) (by omega) ?_
    exact k1 _ _ _ _ hG hS (LW_no hl)
set_option maxHeartbeats 4000000 in
set_option maxRecDepth 100000 in
theorem q_time {p : Program} {l : Launch} {e : Env} {s : State} {m : MethodId} {args : Array Value} {below : List Frame} {meth : Method} {c : Code} {H : Heap} {locs : List Loc} {cells slots : Nat} {Q : State → Prop} {ls : Array Slot} {D : va_G} {cy : Nat → ClassId} {sa : Nat → Nat} {de B : Nat} {ad : Ad} {S : St} {n : Nat → Nat} {th : Int32} {f : Nat → Int64} {g9 : Nat → UInt64} {b L : Nat} {xs : Nat → Int32} {j : Nat} (hfl : l.stackTraces = false) (hC : Cx p m c cL_law 9 s args RL D cy sa de B) (hS : va_S (AB B) s.heap H locs) (hX : va_X b L xs s s.heap) (hbl : b < s.heap.size) (hbA : ¬ AB B b) (hL : L ≤ 2560) (hi : 5 * j + 4 < L) (hl : lo ls 9 (LW b ad (nI (5 * j)) none none none)) (hG : GW D B ad (Vw cy de ad S n S n th (Xl cy f g9)) H) (hI : Inv S n) (hroom : cells + 9 ≤ 601024 ∧ slots + 56 ≤ 7293034) (k0 : cd_time S n (xs (5 * j + 1)) (xs (5 * j + 2)) = 0 → ∀ (ad9 : Ad) (f2 : Nat → Int64) (g2 : Nat → UInt64) (H1 : Heap) (locs1 : List Loc) (ls1 : Array Slot), GW D B ad9 (Vw cy de ad9 S n S n 0 (Xl cy f2 g2)) H1 → va_S (AB B) s.heap H1 locs1 → lo ls1 9 (LW b ad9 (nI (5 * j)) none none none) → W p l e room_1 s m args below meth c H1 locs1 (cells + 9) (slots + 56) Q (F0 m 2593 ls1 [])) (k1 : ∀ (th9 : Int32) (H1 : Heap) (locs1 : List Loc) (ls1 : Array Slot), GW D B ad (Vw cy de ad S n S n th9 (Xl cy f g9)) H1 → va_S (AB B) s.heap H1 locs1 → lo ls1 9 (LW b ad (nI (5 * j)) none none none) → W p l e room_1 s m args below meth c H1 locs1 (cells + 9) (slots + 56) Q (F0 m 2593 ls1 [])) : W p l e room_1 s m args below meth c H locs cells slots Q (F0 m 1699 ls []) := by
  have hx := hC.x
  have hb := hC.b
  refine o_aload_n hx hb dL_law_1699 hl rfl ?_
  refine g_arg hC hS hX hbl hbA hL hi (q := 1) (by decide) hl rfl rfl (z := 1) rfl dL_law_1700 dL_law_1701 dL_law_1703 dL_law_1704 dL_law_1705 ?_
  refine g_arg hC hS hX hbl hbA hL hi (q := 2) (by decide) hl rfl rfl (z := 2) rfl dL_law_1706 dL_law_1707 dL_law_1709 dL_law_1710 dL_law_1711 ?_
  refine o_aload_n hx hb dL_law_1712 hl rfl ?_
  refine k_L_time hfl hC hS hG hI ml_L_218 ⟨(Nat.le_of_ble_eq_true rfl), (Nat.le_of_ble_eq_true rfl)⟩ hl.1 (Nat.le_of_ble_eq_true rfl) dL_law_1713 ⟨show cells + 4 ≤ 601024 by omega, show slots + 24 ≤ 7293034 by omega⟩ (fun h0 ad9 H locs hA hG hS => ?_) (fun t9 ht4 ht0 h1 H locs hG hS => ?_)
  · have hl := LW_ag hA hl
    refine o_istore hx hb dL_law_1716 hl (by decide) rfl (fun ls hl => ?_)
    refine o_aload_n hx hb dL_law_1718 hl rfl ?_
    refine g_arg hC hS hX hbl hbA hL hi (q := 1) (by decide) hl rfl rfl (z := 1) rfl dL_law_1719 dL_law_1720 dL_law_1722 dL_law_1723 dL_law_1724 ?_
    refine g_arg hC hS hX hbl hbA hL hi (q := 2) (by decide) hl rfl rfl (z := 2) rfl dL_law_1725 dL_law_1726 dL_law_1728 dL_law_1729 dL_law_1730 ?_
    refine k_X7_time hC hS hG hI ml_L_220 ⟨(Nat.le_of_ble_eq_true rfl), (Nat.le_of_ble_eq_true rfl)⟩ hl.1 (Nat.le_of_ble_eq_true rfl) dL_law_1731 ⟨show cells + 4 + 0 ≤ 601024 by omega, show slots + 24 + 0 ≤ 7293034 by omega⟩ (fun _ H locs hG hS => ?_) (fun _ t8 h8 h9 => absurd (h8.symm.trans h0) h9)
    refine o_istore hx hb dL_law_1734 hl (by decide) rfl (fun ls hl => ?_)
    refine o_aload_n hx hb dL_law_1736 hl rfl ?_
    refine k_X7_thrown hC hS hG trivial ml_L_144 ⟨(Nat.le_of_ble_eq_true rfl), (Nat.le_of_ble_eq_true rfl)⟩ hl.1 (Nat.le_of_ble_eq_true rfl) dL_law_1737 ⟨show cells + 4 + 0 + 0 ≤ 601024 by omega, show slots + 24 + 0 + 0 ≤ 7293034 by omega⟩ ?_
    refine o_iload hx hb dL_law_1740 hl rfl ?_
    refine lv_icmp_eq (tgt := 1747) hx hb dL_law_1742 (by decide) (fun _ => ?_) (fun h => absurd rfl h)
    refine o_iload hx hb dL_law_1747 hl rfl ?_
    refine lv_if_ne (tgt := 1764) hx hb dL_law_1749 (by decide) (fun h => absurd rfl h) (fun _ => ?_)
    refine o_aload_n hx hb dL_law_1752 hl rfl ?_
    refine lv_iconst (v := 0) hx hb dL_law_1753 (by decide) ?_
    refine g_lald hC hG V_out 0 rfl (by decide) (by decide) dL_law_1754 ?_
    refine bl_0 (x := (Int32.toInt64 (S 22 (ci (xs (5 * j + 1))) (ci (xs (5 * j + 2)))))) pk_uLs.symm ?_
    refine o_iload hx hb dL_law_1755 hl rfl ?_
    refine lv_i2l hx hb dL_law_1757 rfl ?_
    refine lv_lcmpE hx hb dL_law_1758 ?_
    refine lv_if_eq (tgt := 1764) hx hb dL_law_1759 (by decide) (fun _ => ?_) (fun h => absurd rfl h)
    refine lv_goto (tgt := 2593) hx hb dL_law_1764 (by decide) ?_
    refine W.widen (k := cells + 9) (n := slots + 56) (by omega) (by omega) ?_
    exact k0 h0 ad9 _ _ _ _ _ hG hS (LW_no hl)
  · have ht9 := nI_4 ht4 ht0
    refine o_istore hx hb dL_law_1716 hl (by decide) rfl (fun ls hl => ?_)
    refine o_aload_n hx hb dL_law_1718 hl rfl ?_
    refine g_arg hC hS hX hbl hbA hL hi (q := 1) (by decide) hl rfl rfl (z := 1) rfl dL_law_1719 dL_law_1720 dL_law_1722 dL_law_1723 dL_law_1724 ?_
    refine g_arg hC hS hX hbl hbA hL hi (q := 2) (by decide) hl rfl rfl (z := 2) rfl dL_law_1725 dL_law_1726 dL_law_1728 dL_law_1729 dL_law_1730 ?_
    refine k_X7_time hC hS hG hI ml_L_220 ⟨(Nat.le_of_ble_eq_true rfl), (Nat.le_of_ble_eq_true rfl)⟩ hl.1 (Nat.le_of_ble_eq_true rfl) dL_law_1731 ⟨show cells + 4 + 0 ≤ 601024 by omega, show slots + 24 + 0 ≤ 7293034 by omega⟩ (fun h8 => absurd (h1.symm.trans h8) ht0) (fun r9 t8 h8 h9 H locs hG hS => ?_)
    obtain rfl : t8 = t9 := h8.symm.trans h1
    refine o_istore hx hb dL_law_1734 hl (by decide) rfl (fun ls hl => ?_)
    refine o_aload_n hx hb dL_law_1736 hl rfl ?_
    refine k_X7_thrown hC hS hG trivial ml_L_144 ⟨(Nat.le_of_ble_eq_true rfl), (Nat.le_of_ble_eq_true rfl)⟩ hl.1 (Nat.le_of_ble_eq_true rfl) dL_law_1737 ⟨show cells + 4 + 0 + 0 ≤ 601024 by omega, show slots + 24 + 0 + 0 ≤ 7293034 by omega⟩ ?_
    refine o_iload hx hb dL_law_1740 hl rfl ?_
    refine lv_icmp_eq (tgt := 1747) hx hb dL_law_1742 (by decide) (fun _ => ?_) (fun h => absurd rfl h)
    refine o_iload hx hb dL_law_1747 hl rfl ?_
    refine lv_if_ne (tgt := 1764) hx hb dL_law_1749 (by decide) (fun _ => ?_) (fun h => absurd h ht9)
    refine lv_goto (tgt := 2593) hx hb dL_law_1764 (by decide) ?_
    refine W.widen (k := cells + 9) (n := slots + 56) (by omega) (by omega) ?_
    exact k1 _ _ _ _ hG hS (LW_no hl)
set_option maxHeartbeats 4000000 in
set_option maxRecDepth 100000 in
theorem q_inClass {p : Program} {l : Launch} {e : Env} {s : State} {m : MethodId} {args : Array Value} {below : List Frame} {meth : Method} {c : Code} {H : Heap} {locs : List Loc} {cells slots : Nat} {Q : State → Prop} {ls : Array Slot} {D : va_G} {cy : Nat → ClassId} {sa : Nat → Nat} {de B : Nat} {ad : Ad} {S : St} {n : Nat → Nat} {th : Int32} {f : Nat → Int64} {g9 : Nat → UInt64} {b L : Nat} {xs : Nat → Int32} {j : Nat} (hfl : l.stackTraces = false) (hC : Cx p m c cL_law 9 s args RL D cy sa de B) (hS : va_S (AB B) s.heap H locs) (hX : va_X b L xs s s.heap) (hbl : b < s.heap.size) (hbA : ¬ AB B b) (hL : L ≤ 2560) (hi : 5 * j + 4 < L) (hl : lo ls 9 (LW b ad (nI (5 * j)) none none none)) (hG : GW D B ad (Vw cy de ad S n S n th (Xl cy f g9)) H) (hI : Inv S n) (hroom : cells + 9 ≤ 601024 ∧ slots + 56 ≤ 7293034) (k0 : cd_ent S n (xs (5 * j + 1)) (xs (5 * j + 2)) = 0 → ∀ (ad9 : Ad) (f2 : Nat → Int64) (g2 : Nat → UInt64) (H1 : Heap) (locs1 : List Loc) (ls1 : Array Slot), GW D B ad9 (Vw cy de ad9 S n S n 0 (Xl cy f2 g2)) H1 → va_S (AB B) s.heap H1 locs1 → lo ls1 9 (LW b ad9 (nI (5 * j)) none none none) → W p l e room_1 s m args below meth c H1 locs1 (cells + 9) (slots + 56) Q (F0 m 2593 ls1 [])) (k1 : ∀ (th9 : Int32) (H1 : Heap) (locs1 : List Loc) (ls1 : Array Slot), GW D B ad (Vw cy de ad S n S n th9 (Xl cy f g9)) H1 → va_S (AB B) s.heap H1 locs1 → lo ls1 9 (LW b ad (nI (5 * j)) none none none) → W p l e room_1 s m args below meth c H1 locs1 (cells + 9) (slots + 56) Q (F0 m 2593 ls1 [])) : W p l e room_1 s m args below meth c H locs cells slots Q (F0 m 1767 ls []) := by
  have hx := hC.x
  have hb := hC.b
  refine o_aload_n hx hb dL_law_1767 hl rfl ?_
  refine g_arg hC hS hX hbl hbA hL hi (q := 1) (by decide) hl rfl rfl (z := 1) rfl dL_law_1768 dL_law_1769 dL_law_1771 dL_law_1772 dL_law_1773 ?_
  refine g_arg hC hS hX hbl hbA hL hi (q := 2) (by decide) hl rfl rfl (z := 2) rfl dL_law_1774 dL_law_1775 dL_law_1777 dL_law_1778 dL_law_1779 ?_
  refine o_aload_n hx hb dL_law_1780 hl rfl ?_
  refine k_L_inClass hfl hC hS hG hI ml_L_221 ⟨(Nat.le_of_ble_eq_true rfl), (Nat.le_of_ble_eq_true rfl)⟩ hl.1 (Nat.le_of_ble_eq_true rfl) dL_law_1781 ⟨show cells + 3 ≤ 601024 by omega, show slots + 18 ≤ 7293034 by omega⟩ (fun h0 ad9 H locs hA hG hS => ?_) (fun t9 ht4 ht0 h1 H locs hG hS => ?_)
  · have hl := LW_ag hA hl
    refine o_istore hx hb dL_law_1784 hl (by decide) rfl (fun ls hl => ?_)
    refine o_aload_n hx hb dL_law_1786 hl rfl ?_
    refine g_arg hC hS hX hbl hbA hL hi (q := 1) (by decide) hl rfl rfl (z := 1) rfl dL_law_1787 dL_law_1788 dL_law_1790 dL_law_1791 dL_law_1792 ?_
    refine g_arg hC hS hX hbl hbA hL hi (q := 2) (by decide) hl rfl rfl (z := 2) rfl dL_law_1793 dL_law_1794 dL_law_1796 dL_law_1797 dL_law_1798 ?_
    refine k_X7_inClass hC hS hG hI ml_L_223 ⟨(Nat.le_of_ble_eq_true rfl), (Nat.le_of_ble_eq_true rfl)⟩ hl.1 (Nat.le_of_ble_eq_true rfl) dL_law_1799 ⟨show cells + 3 + 0 ≤ 601024 by omega, show slots + 18 + 0 ≤ 7293034 by omega⟩ (fun _ H locs hG hS => ?_) (fun _ t8 h8 h9 => absurd (h8.symm.trans h0) h9)
    refine o_istore hx hb dL_law_1802 hl (by decide) rfl (fun ls hl => ?_)
    refine o_aload_n hx hb dL_law_1804 hl rfl ?_
    refine k_X7_thrown hC hS hG trivial ml_L_144 ⟨(Nat.le_of_ble_eq_true rfl), (Nat.le_of_ble_eq_true rfl)⟩ hl.1 (Nat.le_of_ble_eq_true rfl) dL_law_1805 ⟨show cells + 3 + 0 + 0 ≤ 601024 by omega, show slots + 18 + 0 + 0 ≤ 7293034 by omega⟩ ?_
    refine o_iload hx hb dL_law_1808 hl rfl ?_
    refine lv_icmp_eq (tgt := 1815) hx hb dL_law_1810 (by decide) (fun _ => ?_) (fun h => absurd rfl h)
    refine o_iload hx hb dL_law_1815 hl rfl ?_
    refine lv_if_ne (tgt := 1832) hx hb dL_law_1817 (by decide) (fun h => absurd rfl h) (fun _ => ?_)
    refine o_aload_n hx hb dL_law_1820 hl rfl ?_
    refine lv_iconst (v := 0) hx hb dL_law_1821 (by decide) ?_
    refine g_lald hC hG V_out 0 rfl (by decide) (by decide) dL_law_1822 ?_
    refine bl_0 (x := (Int32.toInt64 (S 20 (ci (xs (5 * j + 1))) (ci (xs (5 * j + 2)))))) pk_uLs.symm ?_
    refine o_iload hx hb dL_law_1823 hl rfl ?_
    refine lv_i2l hx hb dL_law_1825 rfl ?_
    refine lv_lcmpE hx hb dL_law_1826 ?_
    refine lv_if_eq (tgt := 1832) hx hb dL_law_1827 (by decide) (fun _ => ?_) (fun h => absurd rfl h)
    refine lv_goto (tgt := 2593) hx hb dL_law_1832 (by decide) ?_
    refine W.widen (k := cells + 9) (n := slots + 56) (by omega) (by omega) ?_
    exact k0 h0 ad9 _ _ _ _ _ hG hS (LW_no hl)
  · have ht9 := nI_4 ht4 ht0
    refine o_istore hx hb dL_law_1784 hl (by decide) rfl (fun ls hl => ?_)
    refine o_aload_n hx hb dL_law_1786 hl rfl ?_
    refine g_arg hC hS hX hbl hbA hL hi (q := 1) (by decide) hl rfl rfl (z := 1) rfl dL_law_1787 dL_law_1788 dL_law_1790 dL_law_1791 dL_law_1792 ?_
    refine g_arg hC hS hX hbl hbA hL hi (q := 2) (by decide) hl rfl rfl (z := 2) rfl dL_law_1793 dL_law_1794 dL_law_1796 dL_law_1797 dL_law_1798 ?_
    refine k_X7_inClass hC hS hG hI ml_L_223 ⟨(Nat.le_of_ble_eq_true rfl), (Nat.le_of_ble_eq_true rfl)⟩ hl.1 (Nat.le_of_ble_eq_true rfl) dL_law_1799 ⟨show cells + 3 + 0 ≤ 601024 by omega, show slots + 18 + 0 ≤ 7293034 by omega⟩ (fun h8 => absurd (h1.symm.trans h8) ht0) (fun r9 t8 h8 h9 H locs hG hS => ?_)
    obtain rfl : t8 = t9 := h8.symm.trans h1
    refine o_istore hx hb dL_law_1802 hl (by decide) rfl (fun ls hl => ?_)
    refine o_aload_n hx hb dL_law_1804 hl rfl ?_
    refine k_X7_thrown hC hS hG trivial ml_L_144 ⟨(Nat.le_of_ble_eq_true rfl), (Nat.le_of_ble_eq_true rfl)⟩ hl.1 (Nat.le_of_ble_eq_true rfl) dL_law_1805 ⟨show cells + 3 + 0 + 0 ≤ 601024 by omega, show slots + 18 + 0 + 0 ≤ 7293034 by omega⟩ ?_
    refine o_iload hx hb dL_law_1808 hl rfl ?_
    refine lv_icmp_eq (tgt := 1815) hx hb dL_law_1810 (by decide) (fun _ => ?_) (fun h => absurd rfl h)
    refine o_iload hx hb dL_law_1815 hl rfl ?_
    refine lv_if_ne (tgt := 1832) hx hb dL_law_1817 (by decide) (fun _ => ?_) (fun h => absurd h ht9)
    refine lv_goto (tgt := 2593) hx hb dL_law_1832 (by decide) ?_
    refine W.widen (k := cells + 9) (n := slots + 56) (by omega) (by omega) ?_
    exact k1 _ _ _ _ hG hS (LW_no hl)
set_option maxHeartbeats 4000000 in
set_option maxRecDepth 100000 in
theorem q_close {p : Program} {l : Launch} {e : Env} {s : State} {m : MethodId} {args : Array Value} {below : List Frame} {meth : Method} {c : Code} {H : Heap} {locs : List Loc} {cells slots : Nat} {Q : State → Prop} {ls : Array Slot} {D : va_G} {cy : Nat → ClassId} {sa : Nat → Nat} {de B : Nat} {ad : Ad} {S : St} {n : Nat → Nat} {th : Int32} {f : Nat → Int64} {g9 : Nat → UInt64} {b L : Nat} {xs : Nat → Int32} {j : Nat} (hfl : l.stackTraces = false) (hC : Cx p m c cL_law 9 s args RL D cy sa de B) (hS : va_S (AB B) s.heap H locs) (hX : va_X b L xs s s.heap) (hbl : b < s.heap.size) (hbA : ¬ AB B b) (hL : L ≤ 2560) (hi : 5 * j + 4 < L) (hl : lo ls 9 (LW b ad (nI (5 * j)) none none none)) (hG : GW D B ad (Vw cy de ad S n S n th (Xl cy f g9)) H) (hI : Inv S n) (hroom : cells + 9 ≤ 601024 ∧ slots + 56 ≤ 7293034) (k0 : cd_close S n (xs (5 * j + 1)) = 0 → ∀ (ad9 : Ad) (f2 : Nat → Int64) (g2 : Nat → UInt64) (H1 : Heap) (locs1 : List Loc) (ls1 : Array Slot), GW D B ad9 (Vw cy de ad9 (up3 S 19 (ci (xs (5 * j + 1))) 0 1) n (up3 S 19 (ci (xs (5 * j + 1))) 0 1) n 0 (Xl cy f2 g2)) H1 → va_S (AB B) s.heap H1 locs1 → lo ls1 9 (LW b ad9 (nI (5 * j)) none none none) → W p l e room_1 s m args below meth c H1 locs1 (cells + 9) (slots + 56) Q (F0 m 2593 ls1 [])) (k1 : ∀ (th9 : Int32) (H1 : Heap) (locs1 : List Loc) (ls1 : Array Slot), GW D B ad (Vw cy de ad S n S n th9 (Xl cy f g9)) H1 → va_S (AB B) s.heap H1 locs1 → lo ls1 9 (LW b ad (nI (5 * j)) none none none) → W p l e room_1 s m args below meth c H1 locs1 (cells + 9) (slots + 56) Q (F0 m 2593 ls1 [])) : W p l e room_1 s m args below meth c H locs cells slots Q (F0 m 1835 ls []) := by
  have hx := hC.x
  have hb := hC.b
  refine o_aload_n hx hb dL_law_1835 hl rfl ?_
  refine g_arg hC hS hX hbl hbA hL hi (q := 1) (by decide) hl rfl rfl (z := 1) rfl dL_law_1836 dL_law_1837 dL_law_1839 dL_law_1840 dL_law_1841 ?_
  refine o_aload_n hx hb dL_law_1842 hl rfl ?_
  refine k_L_close hfl hC hS hG hI ml_L_224 ⟨(Nat.le_of_ble_eq_true rfl), (Nat.le_of_ble_eq_true rfl)⟩ hl.1 (Nat.le_of_ble_eq_true rfl) dL_law_1843 ⟨show cells + 2 ≤ 601024 by omega, show slots + 12 ≤ 7293034 by omega⟩ (fun h0 ad9 H locs hA hG hS => ?_) (fun t9 ht4 ht0 h1 H locs hG hS => ?_)
  · have hl := LW_ag hA hl
    refine o_istore hx hb dL_law_1846 hl (by decide) rfl (fun ls hl => ?_)
    refine o_aload_n hx hb dL_law_1848 hl rfl ?_
    refine g_arg hC hS hX hbl hbA hL hi (q := 1) (by decide) hl rfl rfl (z := 1) rfl dL_law_1849 dL_law_1850 dL_law_1852 dL_law_1853 dL_law_1854 ?_
    refine k_X7_close hC hS hG hI ml_L_226 ⟨(Nat.le_of_ble_eq_true rfl), (Nat.le_of_ble_eq_true rfl)⟩ hl.1 (Nat.le_of_ble_eq_true rfl) dL_law_1855 ⟨show cells + 2 + 0 ≤ 601024 by omega, show slots + 12 + 0 ≤ 7293034 by omega⟩ (fun _ H locs hG hS => ?_) (fun _ t8 h8 h9 => absurd (h8.symm.trans h0) h9)
    refine o_istore hx hb dL_law_1858 hl (by decide) rfl (fun ls hl => ?_)
    refine o_aload_n hx hb dL_law_1860 hl rfl ?_
    refine k_X7_thrown hC hS hG trivial ml_L_144 ⟨(Nat.le_of_ble_eq_true rfl), (Nat.le_of_ble_eq_true rfl)⟩ hl.1 (Nat.le_of_ble_eq_true rfl) dL_law_1861 ⟨show cells + 2 + 0 + 0 ≤ 601024 by omega, show slots + 12 + 0 + 0 ≤ 7293034 by omega⟩ ?_
    refine o_iload hx hb dL_law_1864 hl rfl ?_
    refine lv_icmp_eq (tgt := 1871) hx hb dL_law_1866 (by decide) (fun _ => ?_) (fun h => absurd rfl h)
    refine o_iload hx hb dL_law_1871 hl rfl ?_
    refine lv_if_ne (tgt := 1888) hx hb dL_law_1873 (by decide) (fun h => absurd rfl h) (fun _ => ?_)
    refine o_aload_n hx hb dL_law_1876 hl rfl ?_
    refine lv_iconst (v := 0) hx hb dL_law_1877 (by decide) ?_
    refine g_lald hC hG V_out 0 rfl (by decide) (by decide) dL_law_1878 ?_
    refine bl_0 (x := (Int32.toInt64 (cnt (timeP S (ci (xs (5 * j + 1)))) 16))) pk_uLs.symm ?_
    refine o_iload hx hb dL_law_1879 hl rfl ?_
    refine lv_i2l hx hb dL_law_1881 rfl ?_
    refine lv_lcmpE hx hb dL_law_1882 ?_
    refine lv_if_eq (tgt := 1888) hx hb dL_law_1883 (by decide) (fun _ => ?_) (fun h => absurd rfl h)
    refine lv_goto (tgt := 2593) hx hb dL_law_1888 (by decide) ?_
    refine W.widen (k := cells + 9) (n := slots + 56) (by omega) (by omega) ?_
    exact k0 h0 ad9 _ _ _ _ _ hG hS (LW_no hl)
  · have ht9 := nI_4 ht4 ht0
    refine o_istore hx hb dL_law_1846 hl (by decide) rfl (fun ls hl => ?_)
    refine o_aload_n hx hb dL_law_1848 hl rfl ?_
    refine g_arg hC hS hX hbl hbA hL hi (q := 1) (by decide) hl rfl rfl (z := 1) rfl dL_law_1849 dL_law_1850 dL_law_1852 dL_law_1853 dL_law_1854 ?_
    refine k_X7_close hC hS hG hI ml_L_226 ⟨(Nat.le_of_ble_eq_true rfl), (Nat.le_of_ble_eq_true rfl)⟩ hl.1 (Nat.le_of_ble_eq_true rfl) dL_law_1855 ⟨show cells + 2 + 0 ≤ 601024 by omega, show slots + 12 + 0 ≤ 7293034 by omega⟩ (fun h8 => absurd (h1.symm.trans h8) ht0) (fun r9 t8 h8 h9 H locs hG hS => ?_)
    obtain rfl : t8 = t9 := h8.symm.trans h1
    refine o_istore hx hb dL_law_1858 hl (by decide) rfl (fun ls hl => ?_)
    refine o_aload_n hx hb dL_law_1860 hl rfl ?_
    refine k_X7_thrown hC hS hG trivial ml_L_144 ⟨(Nat.le_of_ble_eq_true rfl), (Nat.le_of_ble_eq_true rfl)⟩ hl.1 (Nat.le_of_ble_eq_true rfl) dL_law_1861 ⟨show cells + 2 + 0 + 0 ≤ 601024 by omega, show slots + 12 + 0 + 0 ≤ 7293034 by omega⟩ ?_
    refine o_iload hx hb dL_law_1864 hl rfl ?_
    refine lv_icmp_eq (tgt := 1871) hx hb dL_law_1866 (by decide) (fun _ => ?_) (fun h => absurd rfl h)
    refine o_iload hx hb dL_law_1871 hl rfl ?_
    refine lv_if_ne (tgt := 1888) hx hb dL_law_1873 (by decide) (fun _ => ?_) (fun h => absurd h ht9)
    refine lv_goto (tgt := 2593) hx hb dL_law_1888 (by decide) ?_
    refine W.widen (k := cells + 9) (n := slots + 56) (by omega) (by omega) ?_
    exact k1 _ _ _ _ hG hS (LW_no hl)
set_option maxHeartbeats 4000000 in
set_option maxRecDepth 100000 in
theorem q_at {p : Program} {l : Launch} {e : Env} {s : State} {m : MethodId} {args : Array Value} {below : List Frame} {meth : Method} {c : Code} {H : Heap} {locs : List Loc} {cells slots : Nat} {Q : State → Prop} {ls : Array Slot} {D : va_G} {cy : Nat → ClassId} {sa : Nat → Nat} {de B : Nat} {ad : Ad} {S : St} {n : Nat → Nat} {th : Int32} {f : Nat → Int64} {g9 : Nat → UInt64} {b L : Nat} {xs : Nat → Int32} {j : Nat} (hfl : l.stackTraces = false) (hC : Cx p m c cL_law 9 s args RL D cy sa de B) (hS : va_S (AB B) s.heap H locs) (hX : va_X b L xs s s.heap) (hbl : b < s.heap.size) (hbA : ¬ AB B b) (hL : L ≤ 2560) (hi : 5 * j + 4 < L) (hl : lo ls 9 (LW b ad (nI (5 * j)) none none none)) (hG : GW D B ad (Vw cy de ad S n S n th (Xl cy f g9)) H) (hI : Inv S n) (hroom : cells + 9 ≤ 601024 ∧ slots + 56 ≤ 7293034) (k0 : cd_at S n (xs (5 * j + 1)) (xs (5 * j + 2)) = 0 → ∀ (ad9 : Ad) (f2 : Nat → Int64) (g2 : Nat → UInt64) (H1 : Heap) (locs1 : List Loc) (ls1 : Array Slot), GW D B ad9 (Vw cy de ad9 S n S n 0 (Xl cy f2 g2)) H1 → va_S (AB B) s.heap H1 locs1 → lo ls1 9 (LW b ad9 (nI (5 * j)) none none none) → W p l e room_1 s m args below meth c H1 locs1 (cells + 9) (slots + 56) Q (F0 m 2593 ls1 [])) (k1 : ∀ (th9 : Int32) (H1 : Heap) (locs1 : List Loc) (ls1 : Array Slot), GW D B ad (Vw cy de ad S n S n th9 (Xl cy f g9)) H1 → va_S (AB B) s.heap H1 locs1 → lo ls1 9 (LW b ad (nI (5 * j)) none none none) → W p l e room_1 s m args below meth c H1 locs1 (cells + 9) (slots + 56) Q (F0 m 2593 ls1 [])) : W p l e room_1 s m args below meth c H locs cells slots Q (F0 m 1891 ls []) := by
  have hx := hC.x
  have hb := hC.b
  refine o_aload_n hx hb dL_law_1891 hl rfl ?_
  refine g_arg hC hS hX hbl hbA hL hi (q := 1) (by decide) hl rfl rfl (z := 1) rfl dL_law_1892 dL_law_1893 dL_law_1895 dL_law_1896 dL_law_1897 ?_
  refine g_arg hC hS hX hbl hbA hL hi (q := 2) (by decide) hl rfl rfl (z := 2) rfl dL_law_1898 dL_law_1899 dL_law_1901 dL_law_1902 dL_law_1903 ?_
  refine o_aload_n hx hb dL_law_1904 hl rfl ?_
  refine k_L_at hfl hC hS hG hI ml_L_227 ⟨(Nat.le_of_ble_eq_true rfl), (Nat.le_of_ble_eq_true rfl)⟩ hl.1 (Nat.le_of_ble_eq_true rfl) dL_law_1905 ⟨show cells + 2 ≤ 601024 by omega, show slots + 12 ≤ 7293034 by omega⟩ (fun h0 ad9 H locs hA hG hS => ?_) (fun t9 ht4 ht0 h1 H locs hG hS => ?_)
  · have hl := LW_ag hA hl
    refine o_istore hx hb dL_law_1908 hl (by decide) rfl (fun ls hl => ?_)
    refine o_aload_n hx hb dL_law_1910 hl rfl ?_
    refine g_arg hC hS hX hbl hbA hL hi (q := 1) (by decide) hl rfl rfl (z := 1) rfl dL_law_1911 dL_law_1912 dL_law_1914 dL_law_1915 dL_law_1916 ?_
    refine g_arg hC hS hX hbl hbA hL hi (q := 2) (by decide) hl rfl rfl (z := 2) rfl dL_law_1917 dL_law_1918 dL_law_1920 dL_law_1921 dL_law_1922 ?_
    refine k_X7_at hC hS hG hI ml_L_229 ⟨(Nat.le_of_ble_eq_true rfl), (Nat.le_of_ble_eq_true rfl)⟩ hl.1 (Nat.le_of_ble_eq_true rfl) dL_law_1923 ⟨show cells + 2 + 0 ≤ 601024 by omega, show slots + 12 + 0 ≤ 7293034 by omega⟩ (fun _ H locs hG hS => ?_) (fun _ t8 h8 h9 => absurd (h8.symm.trans h0) h9)
    refine o_istore hx hb dL_law_1926 hl (by decide) rfl (fun ls hl => ?_)
    refine o_aload_n hx hb dL_law_1928 hl rfl ?_
    refine k_X7_thrown hC hS hG trivial ml_L_144 ⟨(Nat.le_of_ble_eq_true rfl), (Nat.le_of_ble_eq_true rfl)⟩ hl.1 (Nat.le_of_ble_eq_true rfl) dL_law_1929 ⟨show cells + 2 + 0 + 0 ≤ 601024 by omega, show slots + 12 + 0 + 0 ≤ 7293034 by omega⟩ ?_
    refine o_iload hx hb dL_law_1932 hl rfl ?_
    refine lv_icmp_eq (tgt := 1939) hx hb dL_law_1934 (by decide) (fun _ => ?_) (fun h => absurd rfl h)
    refine o_iload hx hb dL_law_1939 hl rfl ?_
    refine lv_if_ne (tgt := 1956) hx hb dL_law_1941 (by decide) (fun h => absurd rfl h) (fun _ => ?_)
    refine o_aload_n hx hb dL_law_1944 hl rfl ?_
    refine lv_iconst (v := 0) hx hb dL_law_1945 (by decide) ?_
    refine g_lald hC hG V_out 0 rfl (by decide) (by decide) dL_law_1946 ?_
    refine bl_0 (x := (Int32.toInt64 (vl_at S (xs (5 * j + 1)) (xs (5 * j + 2))))) pk_uLs.symm ?_
    refine o_iload hx hb dL_law_1947 hl rfl ?_
    refine lv_i2l hx hb dL_law_1949 rfl ?_
    refine lv_lcmpE hx hb dL_law_1950 ?_
    refine lv_if_eq (tgt := 1956) hx hb dL_law_1951 (by decide) (fun _ => ?_) (fun h => absurd rfl h)
    refine lv_goto (tgt := 2593) hx hb dL_law_1956 (by decide) ?_
    refine W.widen (k := cells + 9) (n := slots + 56) (by omega) (by omega) ?_
    exact k0 h0 ad9 _ _ _ _ _ hG hS (LW_no hl)
  · have ht9 := nI_4 ht4 ht0
    refine o_istore hx hb dL_law_1908 hl (by decide) rfl (fun ls hl => ?_)
    refine o_aload_n hx hb dL_law_1910 hl rfl ?_
    refine g_arg hC hS hX hbl hbA hL hi (q := 1) (by decide) hl rfl rfl (z := 1) rfl dL_law_1911 dL_law_1912 dL_law_1914 dL_law_1915 dL_law_1916 ?_
    refine g_arg hC hS hX hbl hbA hL hi (q := 2) (by decide) hl rfl rfl (z := 2) rfl dL_law_1917 dL_law_1918 dL_law_1920 dL_law_1921 dL_law_1922 ?_
    refine k_X7_at hC hS hG hI ml_L_229 ⟨(Nat.le_of_ble_eq_true rfl), (Nat.le_of_ble_eq_true rfl)⟩ hl.1 (Nat.le_of_ble_eq_true rfl) dL_law_1923 ⟨show cells + 2 + 0 ≤ 601024 by omega, show slots + 12 + 0 ≤ 7293034 by omega⟩ (fun h8 => absurd (h1.symm.trans h8) ht0) (fun r9 t8 h8 h9 H locs hG hS => ?_)
    obtain rfl : t8 = t9 := h8.symm.trans h1
    refine o_istore hx hb dL_law_1926 hl (by decide) rfl (fun ls hl => ?_)
    refine o_aload_n hx hb dL_law_1928 hl rfl ?_
    refine k_X7_thrown hC hS hG trivial ml_L_144 ⟨(Nat.le_of_ble_eq_true rfl), (Nat.le_of_ble_eq_true rfl)⟩ hl.1 (Nat.le_of_ble_eq_true rfl) dL_law_1929 ⟨show cells + 2 + 0 + 0 ≤ 601024 by omega, show slots + 12 + 0 + 0 ≤ 7293034 by omega⟩ ?_
    refine o_iload hx hb dL_law_1932 hl rfl ?_
    refine lv_icmp_eq (tgt := 1939) hx hb dL_law_1934 (by decide) (fun _ => ?_) (fun h => absurd rfl h)
    refine o_iload hx hb dL_law_1939 hl rfl ?_
    refine lv_if_ne (tgt := 1956) hx hb dL_law_1941 (by decide) (fun _ => ?_) (fun h => absurd h ht9)
    refine lv_goto (tgt := 2593) hx hb dL_law_1956 (by decide) ?_
    refine W.widen (k := cells + 9) (n := slots + 56) (by omega) (by omega) ?_
    exact k1 _ _ _ _ hG hS (LW_no hl)
set_option maxHeartbeats 4000000 in
set_option maxRecDepth 100000 in
theorem q_place {p : Program} {l : Launch} {e : Env} {s : State} {m : MethodId} {args : Array Value} {below : List Frame} {meth : Method} {c : Code} {H : Heap} {locs : List Loc} {cells slots : Nat} {Q : State → Prop} {ls : Array Slot} {D : va_G} {cy : Nat → ClassId} {sa : Nat → Nat} {de B : Nat} {ad : Ad} {S : St} {n : Nat → Nat} {th : Int32} {f : Nat → Int64} {g9 : Nat → UInt64} {b L : Nat} {xs : Nat → Int32} {j : Nat} (hfl : l.stackTraces = false) (hC : Cx p m c cL_law 9 s args RL D cy sa de B) (hS : va_S (AB B) s.heap H locs) (hX : va_X b L xs s s.heap) (hbl : b < s.heap.size) (hbA : ¬ AB B b) (hL : L ≤ 2560) (hi : 5 * j + 4 < L) (hl : lo ls 9 (LW b ad (nI (5 * j)) none none none)) (hG : GW D B ad (Vw cy de ad S n S n th (Xl cy f g9)) H) (hI : Inv S n) (hroom : cells + 9 ≤ 601024 ∧ slots + 56 ≤ 7293034) (k0 : cd_time S n (xs (5 * j + 1)) (xs (5 * j + 2)) = 0 → ∀ (ad9 : Ad) (f2 : Nat → Int64) (g2 : Nat → UInt64) (H1 : Heap) (locs1 : List Loc) (ls1 : Array Slot), GW D B ad9 (Vw cy de ad9 S n S n 0 (Xl cy f2 g2)) H1 → va_S (AB B) s.heap H1 locs1 → lo ls1 9 (LW b ad9 (nI (5 * j)) none none none) → W p l e room_1 s m args below meth c H1 locs1 (cells + 9) (slots + 56) Q (F0 m 2593 ls1 [])) (k1 : ∀ (th9 : Int32) (H1 : Heap) (locs1 : List Loc) (ls1 : Array Slot), GW D B ad (Vw cy de ad S n S n th9 (Xl cy f g9)) H1 → va_S (AB B) s.heap H1 locs1 → lo ls1 9 (LW b ad (nI (5 * j)) none none none) → W p l e room_1 s m args below meth c H1 locs1 (cells + 9) (slots + 56) Q (F0 m 2593 ls1 [])) : W p l e room_1 s m args below meth c H locs cells slots Q (F0 m 1959 ls []) := by
  have hx := hC.x
  have hb := hC.b
  refine o_aload_n hx hb dL_law_1959 hl rfl ?_
  refine g_arg hC hS hX hbl hbA hL hi (q := 1) (by decide) hl rfl rfl (z := 1) rfl dL_law_1960 dL_law_1961 dL_law_1963 dL_law_1964 dL_law_1965 ?_
  refine g_arg hC hS hX hbl hbA hL hi (q := 2) (by decide) hl rfl rfl (z := 2) rfl dL_law_1966 dL_law_1967 dL_law_1969 dL_law_1970 dL_law_1971 ?_
  refine o_aload_n hx hb dL_law_1972 hl rfl ?_
  refine k_L_place hfl hC hS hG hI ml_L_230 ⟨(Nat.le_of_ble_eq_true rfl), (Nat.le_of_ble_eq_true rfl)⟩ hl.1 (Nat.le_of_ble_eq_true rfl) dL_law_1973 ⟨show cells + 5 ≤ 601024 by omega, show slots + 30 ≤ 7293034 by omega⟩ (fun h0 ad9 H locs hA hG hS => ?_) (fun t9 ht4 ht0 h1 H locs hG hS => ?_)
  · have hl := LW_ag hA hl
    refine o_istore hx hb dL_law_1976 hl (by decide) rfl (fun ls hl => ?_)
    refine o_aload_n hx hb dL_law_1978 hl rfl ?_
    refine g_arg hC hS hX hbl hbA hL hi (q := 1) (by decide) hl rfl rfl (z := 1) rfl dL_law_1979 dL_law_1980 dL_law_1982 dL_law_1983 dL_law_1984 ?_
    refine g_arg hC hS hX hbl hbA hL hi (q := 2) (by decide) hl rfl rfl (z := 2) rfl dL_law_1985 dL_law_1986 dL_law_1988 dL_law_1989 dL_law_1990 ?_
    refine k_X7_place hC hS hG hI ml_L_232 ⟨(Nat.le_of_ble_eq_true rfl), (Nat.le_of_ble_eq_true rfl)⟩ hl.1 (Nat.le_of_ble_eq_true rfl) dL_law_1991 ⟨show cells + 5 + 0 ≤ 601024 by omega, show slots + 30 + 0 ≤ 7293034 by omega⟩ (fun _ H locs hG hS => ?_) (fun _ t8 h8 h9 => absurd (h8.symm.trans h0) h9)
    refine o_istore hx hb dL_law_1994 hl (by decide) rfl (fun ls hl => ?_)
    refine o_aload_n hx hb dL_law_1996 hl rfl ?_
    refine k_X7_thrown hC hS hG trivial ml_L_144 ⟨(Nat.le_of_ble_eq_true rfl), (Nat.le_of_ble_eq_true rfl)⟩ hl.1 (Nat.le_of_ble_eq_true rfl) dL_law_1997 ⟨show cells + 5 + 0 + 0 ≤ 601024 by omega, show slots + 30 + 0 + 0 ≤ 7293034 by omega⟩ ?_
    refine o_iload hx hb dL_law_2000 hl rfl ?_
    refine lv_icmp_eq (tgt := 2007) hx hb dL_law_2002 (by decide) (fun _ => ?_) (fun h => absurd rfl h)
    refine o_iload hx hb dL_law_2007 hl rfl ?_
    refine lv_if_ne (tgt := 2024) hx hb dL_law_2009 (by decide) (fun h => absurd rfl h) (fun _ => ?_)
    refine o_aload_n hx hb dL_law_2012 hl rfl ?_
    refine lv_iconst (v := 0) hx hb dL_law_2013 (by decide) ?_
    refine g_lald hC hG V_out 0 rfl (by decide) (by decide) dL_law_2014 ?_
    refine bl_0 (x := (Int32.toInt64 (cnt (fasP S (ci (xs (5 * j + 1))) (ci (xs (5 * j + 2)))) 16 + 1))) pk_uLs.symm ?_
    refine o_iload hx hb dL_law_2015 hl rfl ?_
    refine lv_i2l hx hb dL_law_2017 rfl ?_
    refine lv_lcmpE hx hb dL_law_2018 ?_
    refine lv_if_eq (tgt := 2024) hx hb dL_law_2019 (by decide) (fun _ => ?_) (fun h => absurd rfl h)
    refine lv_goto (tgt := 2593) hx hb dL_law_2024 (by decide) ?_
    refine W.widen (k := cells + 9) (n := slots + 56) (by omega) (by omega) ?_
    exact k0 h0 ad9 _ _ _ _ _ hG hS (LW_no hl)
  · have ht9 := nI_4 ht4 ht0
    refine o_istore hx hb dL_law_1976 hl (by decide) rfl (fun ls hl => ?_)
    refine o_aload_n hx hb dL_law_1978 hl rfl ?_
    refine g_arg hC hS hX hbl hbA hL hi (q := 1) (by decide) hl rfl rfl (z := 1) rfl dL_law_1979 dL_law_1980 dL_law_1982 dL_law_1983 dL_law_1984 ?_
    refine g_arg hC hS hX hbl hbA hL hi (q := 2) (by decide) hl rfl rfl (z := 2) rfl dL_law_1985 dL_law_1986 dL_law_1988 dL_law_1989 dL_law_1990 ?_
    refine k_X7_place hC hS hG hI ml_L_232 ⟨(Nat.le_of_ble_eq_true rfl), (Nat.le_of_ble_eq_true rfl)⟩ hl.1 (Nat.le_of_ble_eq_true rfl) dL_law_1991 ⟨show cells + 5 + 0 ≤ 601024 by omega, show slots + 30 + 0 ≤ 7293034 by omega⟩ (fun h8 => absurd (h1.symm.trans h8) ht0) (fun r9 t8 h8 h9 H locs hG hS => ?_)
    obtain rfl : t8 = t9 := h8.symm.trans h1
    refine o_istore hx hb dL_law_1994 hl (by decide) rfl (fun ls hl => ?_)
    refine o_aload_n hx hb dL_law_1996 hl rfl ?_
    refine k_X7_thrown hC hS hG trivial ml_L_144 ⟨(Nat.le_of_ble_eq_true rfl), (Nat.le_of_ble_eq_true rfl)⟩ hl.1 (Nat.le_of_ble_eq_true rfl) dL_law_1997 ⟨show cells + 5 + 0 + 0 ≤ 601024 by omega, show slots + 30 + 0 + 0 ≤ 7293034 by omega⟩ ?_
    refine o_iload hx hb dL_law_2000 hl rfl ?_
    refine lv_icmp_eq (tgt := 2007) hx hb dL_law_2002 (by decide) (fun _ => ?_) (fun h => absurd rfl h)
    refine o_iload hx hb dL_law_2007 hl rfl ?_
    refine lv_if_ne (tgt := 2024) hx hb dL_law_2009 (by decide) (fun _ => ?_) (fun h => absurd h ht9)
    refine lv_goto (tgt := 2593) hx hb dL_law_2024 (by decide) ?_
    refine W.widen (k := cells + 9) (n := slots + 56) (by omega) (by omega) ?_
    exact k1 _ _ _ _ hG hS (LW_no hl)
set_option maxHeartbeats 4000000 in
set_option maxRecDepth 100000 in
theorem q_slot {p : Program} {l : Launch} {e : Env} {s : State} {m : MethodId} {args : Array Value} {below : List Frame} {meth : Method} {c : Code} {H : Heap} {locs : List Loc} {cells slots : Nat} {Q : State → Prop} {ls : Array Slot} {D : va_G} {cy : Nat → ClassId} {sa : Nat → Nat} {de B : Nat} {ad : Ad} {S : St} {n : Nat → Nat} {th : Int32} {f : Nat → Int64} {g9 : Nat → UInt64} {b L : Nat} {xs : Nat → Int32} {j : Nat} (hfl : l.stackTraces = false) (hC : Cx p m c cL_law 9 s args RL D cy sa de B) (hS : va_S (AB B) s.heap H locs) (hX : va_X b L xs s s.heap) (hbl : b < s.heap.size) (hbA : ¬ AB B b) (hL : L ≤ 2560) (hi : 5 * j + 4 < L) (hl : lo ls 9 (LW b ad (nI (5 * j)) none none none)) (hG : GW D B ad (Vw cy de ad S n S n th (Xl cy f g9)) H) (hI : Inv S n) (hroom : cells + 9 ≤ 601024 ∧ slots + 56 ≤ 7293034) (k0 : cd_slot S n (xs (5 * j + 1)) (xs (5 * j + 2)) (xs (5 * j + 3)) = 0 → ∀ (ad9 : Ad) (f2 : Nat → Int64) (g2 : Nat → UInt64) (H1 : Heap) (locs1 : List Loc) (ls1 : Array Slot), GW D B ad9 (Vw cy de ad9 S n S n 0 (Xl cy f2 g2)) H1 → va_S (AB B) s.heap H1 locs1 → lo ls1 9 (LW b ad9 (nI (5 * j)) none none none) → W p l e room_1 s m args below meth c H1 locs1 (cells + 9) (slots + 56) Q (F0 m 2593 ls1 [])) (k1 : ∀ (th9 : Int32) (H1 : Heap) (locs1 : List Loc) (ls1 : Array Slot), GW D B ad (Vw cy de ad S n S n th9 (Xl cy f g9)) H1 → va_S (AB B) s.heap H1 locs1 → lo ls1 9 (LW b ad (nI (5 * j)) none none none) → W p l e room_1 s m args below meth c H1 locs1 (cells + 9) (slots + 56) Q (F0 m 2593 ls1 [])) : W p l e room_1 s m args below meth c H locs cells slots Q (F0 m 2027 ls []) := by
  have hx := hC.x
  have hb := hC.b
  refine o_aload_n hx hb dL_law_2027 hl rfl ?_
  refine g_arg hC hS hX hbl hbA hL hi (q := 1) (by decide) hl rfl rfl (z := 1) rfl dL_law_2028 dL_law_2029 dL_law_2031 dL_law_2032 dL_law_2033 ?_
  refine g_arg hC hS hX hbl hbA hL hi (q := 2) (by decide) hl rfl rfl (z := 2) rfl dL_law_2034 dL_law_2035 dL_law_2037 dL_law_2038 dL_law_2039 ?_
  refine g_arg hC hS hX hbl hbA hL hi (q := 3) (by decide) hl rfl rfl (z := 3) rfl dL_law_2040 dL_law_2041 dL_law_2043 dL_law_2044 dL_law_2045 ?_
  refine o_aload_n hx hb dL_law_2046 hl rfl ?_
  refine k_L_slot hfl hC hS hG hI ml_L_233 ⟨(Nat.le_of_ble_eq_true rfl), (Nat.le_of_ble_eq_true rfl)⟩ hl.1 (Nat.le_of_ble_eq_true rfl) dL_law_2047 ⟨show cells + 2 ≤ 601024 by omega, show slots + 12 ≤ 7293034 by omega⟩ (fun h0 ad9 H locs hA hG hS => ?_) (fun t9 ht4 ht0 h1 H locs hG hS => ?_)
  · have hl := LW_ag hA hl
    refine o_istore hx hb dL_law_2050 hl (by decide) rfl (fun ls hl => ?_)
    refine o_aload_n hx hb dL_law_2052 hl rfl ?_
    refine g_arg hC hS hX hbl hbA hL hi (q := 1) (by decide) hl rfl rfl (z := 1) rfl dL_law_2053 dL_law_2054 dL_law_2056 dL_law_2057 dL_law_2058 ?_
    refine g_arg hC hS hX hbl hbA hL hi (q := 2) (by decide) hl rfl rfl (z := 2) rfl dL_law_2059 dL_law_2060 dL_law_2062 dL_law_2063 dL_law_2064 ?_
    refine g_arg hC hS hX hbl hbA hL hi (q := 3) (by decide) hl rfl rfl (z := 3) rfl dL_law_2065 dL_law_2066 dL_law_2068 dL_law_2069 dL_law_2070 ?_
    refine k_X7_slot hC hS hG ⟨hI, rfl⟩ ml_L_235 ⟨(Nat.le_of_ble_eq_true rfl), (Nat.le_of_ble_eq_true rfl)⟩ hl.1 (Nat.le_of_ble_eq_true rfl) dL_law_2071 ⟨show cells + 2 + 1 ≤ 601024 by omega, show slots + 12 + 6 ≤ 7293034 by omega⟩ (fun _ H locs hG hS => ?_) (fun _ t8 h8 h9 => absurd (h8.symm.trans h0) h9)
    refine o_istore hx hb dL_law_2074 hl (by decide) rfl (fun ls hl => ?_)
    refine o_aload_n hx hb dL_law_2076 hl rfl ?_
    refine k_X7_thrown hC hS hG trivial ml_L_144 ⟨(Nat.le_of_ble_eq_true rfl), (Nat.le_of_ble_eq_true rfl)⟩ hl.1 (Nat.le_of_ble_eq_true rfl) dL_law_2077 ⟨show cells + 2 + 1 + 0 ≤ 601024 by omega, show slots + 12 + 6 + 0 ≤ 7293034 by omega⟩ ?_
    refine o_iload hx hb dL_law_2080 hl rfl ?_
    refine lv_icmp_eq (tgt := 2087) hx hb dL_law_2082 (by decide) (fun _ => ?_) (fun h => absurd rfl h)
    refine o_iload hx hb dL_law_2087 hl rfl ?_
    refine lv_if_ne (tgt := 2104) hx hb dL_law_2089 (by decide) (fun h => absurd rfl h) (fun _ => ?_)
    refine o_aload_n hx hb dL_law_2092 hl rfl ?_
    refine lv_iconst (v := 0) hx hb dL_law_2093 (by decide) ?_
    refine g_lald hC hG V_out 0 rfl (by decide) (by decide) dL_law_2094 ?_
    refine bl_0 (x := (Int32.toInt64 (vl_slot S (xs (5 * j + 1)) (xs (5 * j + 3))))) pk_uLs.symm ?_
    refine o_iload hx hb dL_law_2095 hl rfl ?_
    refine lv_i2l hx hb dL_law_2097 rfl ?_
    refine lv_lcmpE hx hb dL_law_2098 ?_
    refine lv_if_eq (tgt := 2104) hx hb dL_law_2099 (by decide) (fun _ => ?_) (fun h => absurd rfl h)
    refine lv_goto (tgt := 2593) hx hb dL_law_2104 (by decide) ?_
    refine W.widen (k := cells + 9) (n := slots + 56) (by omega) (by omega) ?_
    exact k0 h0 ad9 _ _ _ _ _ hG hS (LW_no hl)
  · have ht9 := nI_4 ht4 ht0
    refine o_istore hx hb dL_law_2050 hl (by decide) rfl (fun ls hl => ?_)
    refine o_aload_n hx hb dL_law_2052 hl rfl ?_
    refine g_arg hC hS hX hbl hbA hL hi (q := 1) (by decide) hl rfl rfl (z := 1) rfl dL_law_2053 dL_law_2054 dL_law_2056 dL_law_2057 dL_law_2058 ?_
    refine g_arg hC hS hX hbl hbA hL hi (q := 2) (by decide) hl rfl rfl (z := 2) rfl dL_law_2059 dL_law_2060 dL_law_2062 dL_law_2063 dL_law_2064 ?_
    refine g_arg hC hS hX hbl hbA hL hi (q := 3) (by decide) hl rfl rfl (z := 3) rfl dL_law_2065 dL_law_2066 dL_law_2068 dL_law_2069 dL_law_2070 ?_
    refine k_X7_slot hC hS hG ⟨hI, rfl⟩ ml_L_235 ⟨(Nat.le_of_ble_eq_true rfl), (Nat.le_of_ble_eq_true rfl)⟩ hl.1 (Nat.le_of_ble_eq_true rfl) dL_law_2071 ⟨show cells + 2 + 1 ≤ 601024 by omega, show slots + 12 + 6 ≤ 7293034 by omega⟩ (fun h8 => absurd (h1.symm.trans h8) ht0) (fun r9 t8 h8 h9 H locs hG hS => ?_)
    obtain rfl : t8 = t9 := h8.symm.trans h1
    refine o_istore hx hb dL_law_2074 hl (by decide) rfl (fun ls hl => ?_)
    refine o_aload_n hx hb dL_law_2076 hl rfl ?_
    refine k_X7_thrown hC hS hG trivial ml_L_144 ⟨(Nat.le_of_ble_eq_true rfl), (Nat.le_of_ble_eq_true rfl)⟩ hl.1 (Nat.le_of_ble_eq_true rfl) dL_law_2077 ⟨show cells + 2 + 1 + 0 ≤ 601024 by omega, show slots + 12 + 6 + 0 ≤ 7293034 by omega⟩ ?_
    refine o_iload hx hb dL_law_2080 hl rfl ?_
    refine lv_icmp_eq (tgt := 2087) hx hb dL_law_2082 (by decide) (fun _ => ?_) (fun h => absurd rfl h)
    refine o_iload hx hb dL_law_2087 hl rfl ?_
    refine lv_if_ne (tgt := 2104) hx hb dL_law_2089 (by decide) (fun _ => ?_) (fun h => absurd h ht9)
    refine lv_goto (tgt := 2593) hx hb dL_law_2104 (by decide) ?_
    refine W.widen (k := cells + 9) (n := slots + 56) (by omega) (by omega) ?_
    exact k1 _ _ _ _ hG hS (LW_no hl)
set_option maxHeartbeats 4000000 in
set_option maxRecDepth 100000 in
theorem q_record {p : Program} {l : Launch} {e : Env} {s : State} {m : MethodId} {args : Array Value} {below : List Frame} {meth : Method} {c : Code} {H : Heap} {locs : List Loc} {cells slots : Nat} {Q : State → Prop} {ls : Array Slot} {D : va_G} {cy : Nat → ClassId} {sa : Nat → Nat} {de B : Nat} {ad : Ad} {S : St} {n : Nat → Nat} {th : Int32} {f : Nat → Int64} {g9 : Nat → UInt64} {b L : Nat} {xs : Nat → Int32} {j : Nat} (hfl : l.stackTraces = false) (hC : Cx p m c cL_law 9 s args RL D cy sa de B) (hS : va_S (AB B) s.heap H locs) (hX : va_X b L xs s s.heap) (hbl : b < s.heap.size) (hbA : ¬ AB B b) (hL : L ≤ 2560) (hi : 5 * j + 4 < L) (hl : lo ls 9 (LW b ad (nI (5 * j)) none none none)) (hG : GW D B ad (Vw cy de ad S n S n th (Xl cy f g9)) H) (hI : Inv S n) (hroom : cells + 9 ≤ 601024 ∧ slots + 56 ≤ 7293034) (k0 : cd_record S n (xs (5 * j + 1)) = 0 → ∀ (ad9 : Ad) (f2 : Nat → Int64) (g2 : Nat → UInt64) (H1 : Heap) (locs1 : List Loc) (ls1 : Array Slot), GW D B ad9 (Vw cy de ad9 S n S n 0 (Xl cy f2 g2)) H1 → va_S (AB B) s.heap H1 locs1 → lo ls1 9 (LW b ad9 (nI (5 * j)) none none none) → W p l e room_1 s m args below meth c H1 locs1 (cells + 9) (slots + 56) Q (F0 m 2593 ls1 [])) (k1 : ∀ (th9 : Int32) (H1 : Heap) (locs1 : List Loc) (ls1 : Array Slot), GW D B ad (Vw cy de ad S n S n th9 (Xl cy f g9)) H1 → va_S (AB B) s.heap H1 locs1 → lo ls1 9 (LW b ad (nI (5 * j)) none none none) → W p l e room_1 s m args below meth c H1 locs1 (cells + 9) (slots + 56) Q (F0 m 2593 ls1 [])) : W p l e room_1 s m args below meth c H locs cells slots Q (F0 m 2107 ls []) := by
  have hx := hC.x
  have hb := hC.b
  refine o_aload_n hx hb dL_law_2107 hl rfl ?_
  refine g_arg hC hS hX hbl hbA hL hi (q := 1) (by decide) hl rfl rfl (z := 1) rfl dL_law_2108 dL_law_2109 dL_law_2111 dL_law_2112 dL_law_2113 ?_
  refine o_aload_n hx hb dL_law_2114 hl rfl ?_
  refine k_L_record hfl hC hS hG hI ml_L_236 ⟨(Nat.le_of_ble_eq_true rfl), (Nat.le_of_ble_eq_true rfl)⟩ hl.1 (Nat.le_of_ble_eq_true rfl) dL_law_2115 ⟨show cells + 2 ≤ 601024 by omega, show slots + 12 ≤ 7293034 by omega⟩ (fun h0 ad9 H locs hA hG hS => ?_) (fun t9 ht4 ht0 h1 H locs hG hS => ?_)
  · have hl := LW_ag hA hl
    refine o_istore hx hb dL_law_2118 hl (by decide) rfl (fun ls hl => ?_)
    refine o_aload_n hx hb dL_law_2120 hl rfl ?_
    refine g_arg hC hS hX hbl hbA hL hi (q := 1) (by decide) hl rfl rfl (z := 1) rfl dL_law_2121 dL_law_2122 dL_law_2124 dL_law_2125 dL_law_2126 ?_
    refine k_X7_record hC hS hG hI ml_L_238 ⟨(Nat.le_of_ble_eq_true rfl), (Nat.le_of_ble_eq_true rfl)⟩ hl.1 (Nat.le_of_ble_eq_true rfl) dL_law_2127 ⟨show cells + 2 + 0 ≤ 601024 by omega, show slots + 12 + 0 ≤ 7293034 by omega⟩ (fun _ H locs hG hS => ?_) (fun _ t8 h8 h9 => absurd (h8.symm.trans h0) h9)
    refine o_istore hx hb dL_law_2130 hl (by decide) rfl (fun ls hl => ?_)
    refine o_aload_n hx hb dL_law_2132 hl rfl ?_
    refine k_X7_thrown hC hS hG trivial ml_L_144 ⟨(Nat.le_of_ble_eq_true rfl), (Nat.le_of_ble_eq_true rfl)⟩ hl.1 (Nat.le_of_ble_eq_true rfl) dL_law_2133 ⟨show cells + 2 + 0 + 0 ≤ 601024 by omega, show slots + 12 + 0 + 0 ≤ 7293034 by omega⟩ ?_
    refine o_iload hx hb dL_law_2136 hl rfl ?_
    refine lv_icmp_eq (tgt := 2143) hx hb dL_law_2138 (by decide) (fun _ => ?_) (fun h => absurd rfl h)
    refine o_iload hx hb dL_law_2143 hl rfl ?_
    refine lv_if_ne (tgt := 2160) hx hb dL_law_2145 (by decide) (fun h => absurd rfl h) (fun _ => ?_)
    refine o_aload_n hx hb dL_law_2148 hl rfl ?_
    refine lv_iconst (v := 0) hx hb dL_law_2149 (by decide) ?_
    refine g_lald hC hG V_out 0 rfl (by decide) (by decide) dL_law_2150 ?_
    refine bl_0 (x := (Int32.toInt64 (S 14 (ci (xs (5 * j + 1))) 0))) pk_uLs.symm ?_
    refine o_iload hx hb dL_law_2151 hl rfl ?_
    refine lv_i2l hx hb dL_law_2153 rfl ?_
    refine lv_lcmpE hx hb dL_law_2154 ?_
    refine lv_if_eq (tgt := 2160) hx hb dL_law_2155 (by decide) (fun _ => ?_) (fun h => absurd rfl h)
    refine lv_goto (tgt := 2593) hx hb dL_law_2160 (by decide) ?_
    refine W.widen (k := cells + 9) (n := slots + 56) (by omega) (by omega) ?_
    exact k0 h0 ad9 _ _ _ _ _ hG hS (LW_no hl)
  · have ht9 := nI_4 ht4 ht0
    refine o_istore hx hb dL_law_2118 hl (by decide) rfl (fun ls hl => ?_)
    refine o_aload_n hx hb dL_law_2120 hl rfl ?_
    refine g_arg hC hS hX hbl hbA hL hi (q := 1) (by decide) hl rfl rfl (z := 1) rfl dL_law_2121 dL_law_2122 dL_law_2124 dL_law_2125 dL_law_2126 ?_
    refine k_X7_record hC hS hG hI ml_L_238 ⟨(Nat.le_of_ble_eq_true rfl), (Nat.le_of_ble_eq_true rfl)⟩ hl.1 (Nat.le_of_ble_eq_true rfl) dL_law_2127 ⟨show cells + 2 + 0 ≤ 601024 by omega, show slots + 12 + 0 ≤ 7293034 by omega⟩ (fun h8 => absurd (h1.symm.trans h8) ht0) (fun r9 t8 h8 h9 H locs hG hS => ?_)
    obtain rfl : t8 = t9 := h8.symm.trans h1
    refine o_istore hx hb dL_law_2130 hl (by decide) rfl (fun ls hl => ?_)
    refine o_aload_n hx hb dL_law_2132 hl rfl ?_
    refine k_X7_thrown hC hS hG trivial ml_L_144 ⟨(Nat.le_of_ble_eq_true rfl), (Nat.le_of_ble_eq_true rfl)⟩ hl.1 (Nat.le_of_ble_eq_true rfl) dL_law_2133 ⟨show cells + 2 + 0 + 0 ≤ 601024 by omega, show slots + 12 + 0 + 0 ≤ 7293034 by omega⟩ ?_
    refine o_iload hx hb dL_law_2136 hl rfl ?_
    refine lv_icmp_eq (tgt := 2143) hx hb dL_law_2138 (by decide) (fun _ => ?_) (fun h => absurd rfl h)
    refine o_iload hx hb dL_law_2143 hl rfl ?_
    refine lv_if_ne (tgt := 2160) hx hb dL_law_2145 (by decide) (fun _ => ?_) (fun h => absurd h ht9)
    refine lv_goto (tgt := 2593) hx hb dL_law_2160 (by decide) ?_
    refine W.widen (k := cells + 9) (n := slots + 56) (by omega) (by omega) ?_
    exact k1 _ _ _ _ hG hS (LW_no hl)
set_option maxHeartbeats 4000000 in
set_option maxRecDepth 100000 in
theorem q_floor {p : Program} {l : Launch} {e : Env} {s : State} {m : MethodId} {args : Array Value} {below : List Frame} {meth : Method} {c : Code} {H : Heap} {locs : List Loc} {cells slots : Nat} {Q : State → Prop} {ls : Array Slot} {D : va_G} {cy : Nat → ClassId} {sa : Nat → Nat} {de B : Nat} {ad : Ad} {S : St} {n : Nat → Nat} {th : Int32} {f : Nat → Int64} {g9 : Nat → UInt64} {b L : Nat} {xs : Nat → Int32} {j : Nat} (hfl : l.stackTraces = false) (hC : Cx p m c cL_law 9 s args RL D cy sa de B) (hS : va_S (AB B) s.heap H locs) (hX : va_X b L xs s s.heap) (hbl : b < s.heap.size) (hbA : ¬ AB B b) (hL : L ≤ 2560) (hi : 5 * j + 4 < L) (hl : lo ls 9 (LW b ad (nI (5 * j)) none none none)) (hG : GW D B ad (Vw cy de ad S n S n th (Xl cy f g9)) H) (hI : Inv S n) (hroom : cells + 9 ≤ 601024 ∧ slots + 56 ≤ 7293034) (k0 : cd_floor S n (xs (5 * j + 1)) (xs (5 * j + 2)) = 0 → ∀ (ad9 : Ad) (f2 : Nat → Int64) (g2 : Nat → UInt64) (H1 : Heap) (locs1 : List Loc) (ls1 : Array Slot), GW D B ad9 (Vw cy de ad9 (puF S (xs (5 * j + 1)) (xs (5 * j + 2)) (n 0)) n (puF S (xs (5 * j + 1)) (xs (5 * j + 2)) (n 0)) n 0 (Xl cy f2 g2)) H1 → va_S (AB B) s.heap H1 locs1 → lo ls1 9 (LW b ad9 (nI (5 * j)) none none none) → W p l e room_1 s m args below meth c H1 locs1 (cells + 9) (slots + 56) Q (F0 m 2593 ls1 [])) (k1 : ∀ (th9 : Int32) (H1 : Heap) (locs1 : List Loc) (ls1 : Array Slot), GW D B ad (Vw cy de ad S n S n th9 (Xl cy f g9)) H1 → va_S (AB B) s.heap H1 locs1 → lo ls1 9 (LW b ad (nI (5 * j)) none none none) → W p l e room_1 s m args below meth c H1 locs1 (cells + 9) (slots + 56) Q (F0 m 2593 ls1 [])) : W p l e room_1 s m args below meth c H locs cells slots Q (F0 m 2163 ls []) := by
  have hx := hC.x
  have hb := hC.b
  refine o_aload_n hx hb dL_law_2163 hl rfl ?_
  refine g_arg hC hS hX hbl hbA hL hi (q := 1) (by decide) hl rfl rfl (z := 1) rfl dL_law_2164 dL_law_2165 dL_law_2167 dL_law_2168 dL_law_2169 ?_
  refine g_arg hC hS hX hbl hbA hL hi (q := 2) (by decide) hl rfl rfl (z := 2) rfl dL_law_2170 dL_law_2171 dL_law_2173 dL_law_2174 dL_law_2175 ?_
  refine o_aload_n hx hb dL_law_2176 hl rfl ?_
  refine k_L_floor hfl hC hS hG hI ml_L_239 ⟨(Nat.le_of_ble_eq_true rfl), (Nat.le_of_ble_eq_true rfl)⟩ hl.1 (Nat.le_of_ble_eq_true rfl) dL_law_2177 ⟨show cells + 2 ≤ 601024 by omega, show slots + 12 ≤ 7293034 by omega⟩ (fun h0 ad9 H locs hA hG hS => ?_) (fun t9 ht4 ht0 h1 H locs hG hS => ?_)
  · have hl := LW_ag hA hl
    refine o_istore hx hb dL_law_2180 hl (by decide) rfl (fun ls hl => ?_)
    refine o_aload_n hx hb dL_law_2182 hl rfl ?_
    refine g_arg hC hS hX hbl hbA hL hi (q := 1) (by decide) hl rfl rfl (z := 1) rfl dL_law_2183 dL_law_2184 dL_law_2186 dL_law_2187 dL_law_2188 ?_
    refine g_arg hC hS hX hbl hbA hL hi (q := 2) (by decide) hl rfl rfl (z := 2) rfl dL_law_2189 dL_law_2190 dL_law_2192 dL_law_2193 dL_law_2194 ?_
    refine k_X7_floor hC hS hG hI ml_L_241 ⟨(Nat.le_of_ble_eq_true rfl), (Nat.le_of_ble_eq_true rfl)⟩ hl.1 (Nat.le_of_ble_eq_true rfl) dL_law_2195 ⟨show cells + 2 + 0 ≤ 601024 by omega, show slots + 12 + 0 ≤ 7293034 by omega⟩ (fun _ H locs hG hS => ?_) (fun _ t8 h8 h9 => absurd (h8.symm.trans h0) h9)
    refine o_istore hx hb dL_law_2198 hl (by decide) rfl (fun ls hl => ?_)
    refine o_aload_n hx hb dL_law_2200 hl rfl ?_
    refine k_X7_thrown hC hS hG trivial ml_L_144 ⟨(Nat.le_of_ble_eq_true rfl), (Nat.le_of_ble_eq_true rfl)⟩ hl.1 (Nat.le_of_ble_eq_true rfl) dL_law_2201 ⟨show cells + 2 + 0 + 0 ≤ 601024 by omega, show slots + 12 + 0 + 0 ≤ 7293034 by omega⟩ ?_
    refine o_iload hx hb dL_law_2204 hl rfl ?_
    refine lv_icmp_eq (tgt := 2211) hx hb dL_law_2206 (by decide) (fun _ => ?_) (fun h => absurd rfl h)
    refine o_iload hx hb dL_law_2211 hl rfl ?_
    refine lv_if_ne (tgt := 2228) hx hb dL_law_2213 (by decide) (fun h => absurd rfl h) (fun _ => ?_)
    refine o_aload_n hx hb dL_law_2216 hl rfl ?_
    refine lv_iconst (v := 0) hx hb dL_law_2217 (by decide) ?_
    refine g_lald hC hG V_out 0 rfl (by decide) (by decide) dL_law_2218 ?_
    refine bl_0 (x := (Int32.toInt64 (ptF S (xs (5 * j + 2)) (n 0)))) pk_uLs.symm ?_
    refine o_iload hx hb dL_law_2219 hl rfl ?_
    refine lv_i2l hx hb dL_law_2221 rfl ?_
    refine lv_lcmpE hx hb dL_law_2222 ?_
    refine lv_if_eq (tgt := 2228) hx hb dL_law_2223 (by decide) (fun _ => ?_) (fun h => absurd rfl h)
    refine lv_goto (tgt := 2593) hx hb dL_law_2228 (by decide) ?_
    refine W.widen (k := cells + 9) (n := slots + 56) (by omega) (by omega) ?_
    exact k0 h0 ad9 _ _ _ _ _ hG hS (LW_no hl)
  · have ht9 := nI_4 ht4 ht0
    refine o_istore hx hb dL_law_2180 hl (by decide) rfl (fun ls hl => ?_)
    refine o_aload_n hx hb dL_law_2182 hl rfl ?_
    refine g_arg hC hS hX hbl hbA hL hi (q := 1) (by decide) hl rfl rfl (z := 1) rfl dL_law_2183 dL_law_2184 dL_law_2186 dL_law_2187 dL_law_2188 ?_
    refine g_arg hC hS hX hbl hbA hL hi (q := 2) (by decide) hl rfl rfl (z := 2) rfl dL_law_2189 dL_law_2190 dL_law_2192 dL_law_2193 dL_law_2194 ?_
    refine k_X7_floor hC hS hG hI ml_L_241 ⟨(Nat.le_of_ble_eq_true rfl), (Nat.le_of_ble_eq_true rfl)⟩ hl.1 (Nat.le_of_ble_eq_true rfl) dL_law_2195 ⟨show cells + 2 + 0 ≤ 601024 by omega, show slots + 12 + 0 ≤ 7293034 by omega⟩ (fun h8 => absurd (h1.symm.trans h8) ht0) (fun r9 t8 h8 h9 H locs hG hS => ?_)
    obtain rfl : t8 = t9 := h8.symm.trans h1
    refine o_istore hx hb dL_law_2198 hl (by decide) rfl (fun ls hl => ?_)
    refine o_aload_n hx hb dL_law_2200 hl rfl ?_
    refine k_X7_thrown hC hS hG trivial ml_L_144 ⟨(Nat.le_of_ble_eq_true rfl), (Nat.le_of_ble_eq_true rfl)⟩ hl.1 (Nat.le_of_ble_eq_true rfl) dL_law_2201 ⟨show cells + 2 + 0 + 0 ≤ 601024 by omega, show slots + 12 + 0 + 0 ≤ 7293034 by omega⟩ ?_
    refine o_iload hx hb dL_law_2204 hl rfl ?_
    refine lv_icmp_eq (tgt := 2211) hx hb dL_law_2206 (by decide) (fun _ => ?_) (fun h => absurd rfl h)
    refine o_iload hx hb dL_law_2211 hl rfl ?_
    refine lv_if_ne (tgt := 2228) hx hb dL_law_2213 (by decide) (fun _ => ?_) (fun h => absurd h ht9)
    refine lv_goto (tgt := 2593) hx hb dL_law_2228 (by decide) ?_
    refine W.widen (k := cells + 9) (n := slots + 56) (by omega) (by omega) ?_
    exact k1 _ _ _ _ hG hS (LW_no hl)
set_option maxHeartbeats 4000000 in
set_option maxRecDepth 100000 in
theorem q_swap {p : Program} {l : Launch} {e : Env} {s : State} {m : MethodId} {args : Array Value} {below : List Frame} {meth : Method} {c : Code} {H : Heap} {locs : List Loc} {cells slots : Nat} {Q : State → Prop} {ls : Array Slot} {D : va_G} {cy : Nat → ClassId} {sa : Nat → Nat} {de B : Nat} {ad : Ad} {S : St} {n : Nat → Nat} {th : Int32} {f : Nat → Int64} {g9 : Nat → UInt64} {b L : Nat} {xs : Nat → Int32} {j : Nat} (hfl : l.stackTraces = false) (hC : Cx p m c cL_law 9 s args RL D cy sa de B) (hS : va_S (AB B) s.heap H locs) (hX : va_X b L xs s s.heap) (hbl : b < s.heap.size) (hbA : ¬ AB B b) (hL : L ≤ 2560) (hi : 5 * j + 4 < L) (hl : lo ls 9 (LW b ad (nI (5 * j)) none none none)) (hG : GW D B ad (Vw cy de ad S n S n th (Xl cy f g9)) H) (hI : Inv S n) (hroom : cells + 9 ≤ 601024 ∧ slots + 56 ≤ 7293034) (k0 : cd_swap S n (xs (5 * j + 1)) (xs (5 * j + 2)) (xs (5 * j + 3)) = 0 → ∀ (ad9 : Ad) (f2 : Nat → Int64) (g2 : Nat → UInt64) (H1 : Heap) (locs1 : List Loc) (ls1 : Array Slot), GW D B ad9 (Vw cy de ad9 (up_swap S (xs (5 * j + 2)) (xs (5 * j + 3))) n (up_swap S (xs (5 * j + 2)) (xs (5 * j + 3))) n 0 (Xl cy f2 g2)) H1 → va_S (AB B) s.heap H1 locs1 → lo ls1 9 (LW b ad9 (nI (5 * j)) none none none) → W p l e room_1 s m args below meth c H1 locs1 (cells + 9) (slots + 56) Q (F0 m 2593 ls1 [])) (k1 : ∀ (th9 : Int32) (H1 : Heap) (locs1 : List Loc) (ls1 : Array Slot), GW D B ad (Vw cy de ad S n S n th9 (Xl cy f g9)) H1 → va_S (AB B) s.heap H1 locs1 → lo ls1 9 (LW b ad (nI (5 * j)) none none none) → W p l e room_1 s m args below meth c H1 locs1 (cells + 9) (slots + 56) Q (F0 m 2593 ls1 [])) : W p l e room_1 s m args below meth c H locs cells slots Q (F0 m 2231 ls []) := by
  have hx := hC.x
  have hb := hC.b
  refine o_aload_n hx hb dL_law_2231 hl rfl ?_
  refine g_arg hC hS hX hbl hbA hL hi (q := 1) (by decide) hl rfl rfl (z := 1) rfl dL_law_2232 dL_law_2233 dL_law_2235 dL_law_2236 dL_law_2237 ?_
  refine g_arg hC hS hX hbl hbA hL hi (q := 2) (by decide) hl rfl rfl (z := 2) rfl dL_law_2238 dL_law_2239 dL_law_2241 dL_law_2242 dL_law_2243 ?_
  refine g_arg hC hS hX hbl hbA hL hi (q := 3) (by decide) hl rfl rfl (z := 3) rfl dL_law_2244 dL_law_2245 dL_law_2247 dL_law_2248 dL_law_2249 ?_
  refine o_aload_n hx hb dL_law_2250 hl rfl ?_
  refine k_L_swap hfl hC hS hG hI ml_L_242 ⟨(Nat.le_of_ble_eq_true rfl), (Nat.le_of_ble_eq_true rfl)⟩ hl.1 (Nat.le_of_ble_eq_true rfl) dL_law_2251 ⟨show cells + 4 ≤ 601024 by omega, show slots + 24 ≤ 7293034 by omega⟩ (fun h0 ad9 H locs hA hG hS => ?_) (fun t9 ht4 ht0 h1 H locs hG hS => ?_)
  · have hl := LW_ag hA hl
    refine o_istore hx hb dL_law_2254 hl (by decide) rfl (fun ls hl => ?_)
    refine o_aload_n hx hb dL_law_2256 hl rfl ?_
    refine g_arg hC hS hX hbl hbA hL hi (q := 1) (by decide) hl rfl rfl (z := 1) rfl dL_law_2257 dL_law_2258 dL_law_2260 dL_law_2261 dL_law_2262 ?_
    refine g_arg hC hS hX hbl hbA hL hi (q := 2) (by decide) hl rfl rfl (z := 2) rfl dL_law_2263 dL_law_2264 dL_law_2266 dL_law_2267 dL_law_2268 ?_
    refine g_arg hC hS hX hbl hbA hL hi (q := 3) (by decide) hl rfl rfl (z := 3) rfl dL_law_2269 dL_law_2270 dL_law_2272 dL_law_2273 dL_law_2274 ?_
    refine k_X7_swap hC hS hG hI ml_L_244 ⟨(Nat.le_of_ble_eq_true rfl), (Nat.le_of_ble_eq_true rfl)⟩ hl.1 (Nat.le_of_ble_eq_true rfl) dL_law_2275 ⟨show cells + 4 + 0 ≤ 601024 by omega, show slots + 24 + 0 ≤ 7293034 by omega⟩ (fun _ H locs hG hS => ?_) (fun _ t8 h8 h9 => absurd (h8.symm.trans h0) h9)
    refine o_istore hx hb dL_law_2278 hl (by decide) rfl (fun ls hl => ?_)
    refine o_aload_n hx hb dL_law_2280 hl rfl ?_
    refine k_X7_thrown hC hS hG trivial ml_L_144 ⟨(Nat.le_of_ble_eq_true rfl), (Nat.le_of_ble_eq_true rfl)⟩ hl.1 (Nat.le_of_ble_eq_true rfl) dL_law_2281 ⟨show cells + 4 + 0 + 0 ≤ 601024 by omega, show slots + 24 + 0 + 0 ≤ 7293034 by omega⟩ ?_
    refine o_iload hx hb dL_law_2284 hl rfl ?_
    refine lv_icmp_eq (tgt := 2291) hx hb dL_law_2286 (by decide) (fun _ => ?_) (fun h => absurd rfl h)
    refine o_iload hx hb dL_law_2291 hl rfl ?_
    refine lv_if_ne (tgt := 2308) hx hb dL_law_2293 (by decide) (fun h => absurd rfl h) (fun _ => ?_)
    refine o_aload_n hx hb dL_law_2296 hl rfl ?_
    refine lv_iconst (v := 0) hx hb dL_law_2297 (by decide) ?_
    refine g_lald hC hG V_out 0 rfl (by decide) (by decide) dL_law_2298 ?_
    refine bl_0 (x := (Int32.toInt64 (swp S n (xs (5 * j + 1)) (ci (xs (5 * j + 2))) (ci (xs (5 * j + 3)))))) pk_uLs.symm ?_
    refine o_iload hx hb dL_law_2299 hl rfl ?_
    refine lv_i2l hx hb dL_law_2301 rfl ?_
    refine lv_lcmpE hx hb dL_law_2302 ?_
    refine lv_if_eq (tgt := 2308) hx hb dL_law_2303 (by decide) (fun _ => ?_) (fun h => absurd rfl h)
    refine lv_goto (tgt := 2593) hx hb dL_law_2308 (by decide) ?_
    refine W.widen (k := cells + 9) (n := slots + 56) (by omega) (by omega) ?_
    exact k0 h0 ad9 _ _ _ _ _ hG hS (LW_no hl)
  · have ht9 := nI_4 ht4 ht0
    refine o_istore hx hb dL_law_2254 hl (by decide) rfl (fun ls hl => ?_)
    refine o_aload_n hx hb dL_law_2256 hl rfl ?_
    refine g_arg hC hS hX hbl hbA hL hi (q := 1) (by decide) hl rfl rfl (z := 1) rfl dL_law_2257 dL_law_2258 dL_law_2260 dL_law_2261 dL_law_2262 ?_
    refine g_arg hC hS hX hbl hbA hL hi (q := 2) (by decide) hl rfl rfl (z := 2) rfl dL_law_2263 dL_law_2264 dL_law_2266 dL_law_2267 dL_law_2268 ?_
    refine g_arg hC hS hX hbl hbA hL hi (q := 3) (by decide) hl rfl rfl (z := 3) rfl dL_law_2269 dL_law_2270 dL_law_2272 dL_law_2273 dL_law_2274 ?_
    refine k_X7_swap hC hS hG hI ml_L_244 ⟨(Nat.le_of_ble_eq_true rfl), (Nat.le_of_ble_eq_true rfl)⟩ hl.1 (Nat.le_of_ble_eq_true rfl) dL_law_2275 ⟨show cells + 4 + 0 ≤ 601024 by omega, show slots + 24 + 0 ≤ 7293034 by omega⟩ (fun h8 => absurd (h1.symm.trans h8) ht0) (fun r9 t8 h8 h9 H locs hG hS => ?_)
    obtain rfl : t8 = t9 := h8.symm.trans h1
    refine o_istore hx hb dL_law_2278 hl (by decide) rfl (fun ls hl => ?_)
    refine o_aload_n hx hb dL_law_2280 hl rfl ?_
    refine k_X7_thrown hC hS hG trivial ml_L_144 ⟨(Nat.le_of_ble_eq_true rfl), (Nat.le_of_ble_eq_true rfl)⟩ hl.1 (Nat.le_of_ble_eq_true rfl) dL_law_2281 ⟨show cells + 4 + 0 + 0 ≤ 601024 by omega, show slots + 24 + 0 + 0 ≤ 7293034 by omega⟩ ?_
    refine o_iload hx hb dL_law_2284 hl rfl ?_
    refine lv_icmp_eq (tgt := 2291) hx hb dL_law_2286 (by decide) (fun _ => ?_) (fun h => absurd rfl h)
    refine o_iload hx hb dL_law_2291 hl rfl ?_
    refine lv_if_ne (tgt := 2308) hx hb dL_law_2293 (by decide) (fun _ => ?_) (fun h => absurd h ht9)
    refine lv_goto (tgt := 2593) hx hb dL_law_2308 (by decide) ?_
    refine W.widen (k := cells + 9) (n := slots + 56) (by omega) (by omega) ?_
    exact k1 _ _ _ _ hG hS (LW_no hl)
set_option maxHeartbeats 4000000 in
set_option maxRecDepth 100000 in
theorem q_onFloor {p : Program} {l : Launch} {e : Env} {s : State} {m : MethodId} {args : Array Value} {below : List Frame} {meth : Method} {c : Code} {H : Heap} {locs : List Loc} {cells slots : Nat} {Q : State → Prop} {ls : Array Slot} {D : va_G} {cy : Nat → ClassId} {sa : Nat → Nat} {de B : Nat} {ad : Ad} {S : St} {n : Nat → Nat} {th : Int32} {f : Nat → Int64} {g9 : Nat → UInt64} {b L : Nat} {xs : Nat → Int32} {j : Nat} (hfl : l.stackTraces = false) (hC : Cx p m c cL_law 9 s args RL D cy sa de B) (hS : va_S (AB B) s.heap H locs) (hX : va_X b L xs s s.heap) (hbl : b < s.heap.size) (hbA : ¬ AB B b) (hL : L ≤ 2560) (hi : 5 * j + 4 < L) (hl : lo ls 9 (LW b ad (nI (5 * j)) none none none)) (hG : GW D B ad (Vw cy de ad S n S n th (Xl cy f g9)) H) (hI : Inv S n) (hroom : cells + 9 ≤ 601024 ∧ slots + 56 ≤ 7293034) (k0 : cd_money (xs (5 * j + 1)) = 0 → ∀ (ad9 : Ad) (f2 : Nat → Int64) (g2 : Nat → UInt64) (H1 : Heap) (locs1 : List Loc) (ls1 : Array Slot), GW D B ad9 (Vw cy de ad9 S n S n 0 (Xl cy f2 g2)) H1 → va_S (AB B) s.heap H1 locs1 → lo ls1 9 (LW b ad9 (nI (5 * j)) none none none) → W p l e room_1 s m args below meth c H1 locs1 (cells + 9) (slots + 56) Q (F0 m 2593 ls1 [])) (k1 : ∀ (th9 : Int32) (H1 : Heap) (locs1 : List Loc) (ls1 : Array Slot), GW D B ad (Vw cy de ad S n S n th9 (Xl cy f g9)) H1 → va_S (AB B) s.heap H1 locs1 → lo ls1 9 (LW b ad (nI (5 * j)) none none none) → W p l e room_1 s m args below meth c H1 locs1 (cells + 9) (slots + 56) Q (F0 m 2593 ls1 [])) : W p l e room_1 s m args below meth c H locs cells slots Q (F0 m 2311 ls []) := by
  have hx := hC.x
  have hb := hC.b
  refine o_aload_n hx hb dL_law_2311 hl rfl ?_
  refine g_arg hC hS hX hbl hbA hL hi (q := 1) (by decide) hl rfl rfl (z := 1) rfl dL_law_2312 dL_law_2313 dL_law_2315 dL_law_2316 dL_law_2317 ?_
  refine o_aload_n hx hb dL_law_2318 hl rfl ?_
  refine k_L_onFloor hfl hC hS hG hI ml_L_245 ⟨(Nat.le_of_ble_eq_true rfl), (Nat.le_of_ble_eq_true rfl)⟩ hl.1 (Nat.le_of_ble_eq_true rfl) dL_law_2319 ⟨show cells + 1 ≤ 601024 by omega, show slots + 6 ≤ 7293034 by omega⟩ (fun h0 ad9 H locs hA hG hS => ?_) (fun t9 ht4 ht0 h1 H locs hG hS => ?_)
  · have hl := LW_ag hA hl
    refine o_istore hx hb dL_law_2322 hl (by decide) rfl (fun ls hl => ?_)
    refine o_aload_n hx hb dL_law_2324 hl rfl ?_
    refine g_arg hC hS hX hbl hbA hL hi (q := 1) (by decide) hl rfl rfl (z := 1) rfl dL_law_2325 dL_law_2326 dL_law_2328 dL_law_2329 dL_law_2330 ?_
    refine k_X7_onFloor hC hS hG hI ml_L_247 ⟨(Nat.le_of_ble_eq_true rfl), (Nat.le_of_ble_eq_true rfl)⟩ hl.1 (Nat.le_of_ble_eq_true rfl) dL_law_2331 ⟨show cells + 1 + 0 ≤ 601024 by omega, show slots + 6 + 0 ≤ 7293034 by omega⟩ (fun _ H locs hG hS => ?_) (fun _ t8 h8 h9 => absurd (h8.symm.trans h0) h9)
    refine o_istore hx hb dL_law_2334 hl (by decide) rfl (fun ls hl => ?_)
    refine o_aload_n hx hb dL_law_2336 hl rfl ?_
    refine k_X7_thrown hC hS hG trivial ml_L_144 ⟨(Nat.le_of_ble_eq_true rfl), (Nat.le_of_ble_eq_true rfl)⟩ hl.1 (Nat.le_of_ble_eq_true rfl) dL_law_2337 ⟨show cells + 1 + 0 + 0 ≤ 601024 by omega, show slots + 6 + 0 + 0 ≤ 7293034 by omega⟩ ?_
    refine o_iload hx hb dL_law_2340 hl rfl ?_
    refine lv_icmp_eq (tgt := 2347) hx hb dL_law_2342 (by decide) (fun _ => ?_) (fun h => absurd rfl h)
    refine o_iload hx hb dL_law_2347 hl rfl ?_
    refine lv_if_ne (tgt := 2364) hx hb dL_law_2349 (by decide) (fun h => absurd rfl h) (fun _ => ?_)
    refine o_aload_n hx hb dL_law_2352 hl rfl ?_
    refine lv_iconst (v := 0) hx hb dL_law_2353 (by decide) ?_
    refine g_lald hC hG V_out 0 rfl (by decide) (by decide) dL_law_2354 ?_
    refine bl_0 (x := (Int32.toInt64 (biF S (xs (5 * j + 1)) (n 0)))) pk_uLs.symm ?_
    refine o_iload hx hb dL_law_2355 hl rfl ?_
    refine lv_i2l hx hb dL_law_2357 rfl ?_
    refine lv_lcmpE hx hb dL_law_2358 ?_
    refine lv_if_eq (tgt := 2364) hx hb dL_law_2359 (by decide) (fun _ => ?_) (fun h => absurd rfl h)
    refine lv_goto (tgt := 2593) hx hb dL_law_2364 (by decide) ?_
    refine W.widen (k := cells + 9) (n := slots + 56) (by omega) (by omega) ?_
    exact k0 h0 ad9 _ _ _ _ _ hG hS (LW_no hl)
  · have ht9 := nI_4 ht4 ht0
    refine o_istore hx hb dL_law_2322 hl (by decide) rfl (fun ls hl => ?_)
    refine o_aload_n hx hb dL_law_2324 hl rfl ?_
    refine g_arg hC hS hX hbl hbA hL hi (q := 1) (by decide) hl rfl rfl (z := 1) rfl dL_law_2325 dL_law_2326 dL_law_2328 dL_law_2329 dL_law_2330 ?_
    refine k_X7_onFloor hC hS hG hI ml_L_247 ⟨(Nat.le_of_ble_eq_true rfl), (Nat.le_of_ble_eq_true rfl)⟩ hl.1 (Nat.le_of_ble_eq_true rfl) dL_law_2331 ⟨show cells + 1 + 0 ≤ 601024 by omega, show slots + 6 + 0 ≤ 7293034 by omega⟩ (fun h8 => absurd (h1.symm.trans h8) ht0) (fun r9 t8 h8 h9 H locs hG hS => ?_)
    obtain rfl : t8 = t9 := h8.symm.trans h1
    refine o_istore hx hb dL_law_2334 hl (by decide) rfl (fun ls hl => ?_)
    refine o_aload_n hx hb dL_law_2336 hl rfl ?_
    refine k_X7_thrown hC hS hG trivial ml_L_144 ⟨(Nat.le_of_ble_eq_true rfl), (Nat.le_of_ble_eq_true rfl)⟩ hl.1 (Nat.le_of_ble_eq_true rfl) dL_law_2337 ⟨show cells + 1 + 0 + 0 ≤ 601024 by omega, show slots + 6 + 0 + 0 ≤ 7293034 by omega⟩ ?_
    refine o_iload hx hb dL_law_2340 hl rfl ?_
    refine lv_icmp_eq (tgt := 2347) hx hb dL_law_2342 (by decide) (fun _ => ?_) (fun h => absurd rfl h)
    refine o_iload hx hb dL_law_2347 hl rfl ?_
    refine lv_if_ne (tgt := 2364) hx hb dL_law_2349 (by decide) (fun _ => ?_) (fun h => absurd h ht9)
    refine lv_goto (tgt := 2593) hx hb dL_law_2364 (by decide) ?_
    refine W.widen (k := cells + 9) (n := slots + 56) (by omega) (by omega) ?_
    exact k1 _ _ _ _ hG hS (LW_no hl)
set_option maxHeartbeats 4000000 in
set_option maxRecDepth 100000 in
theorem q_points {p : Program} {l : Launch} {e : Env} {s : State} {m : MethodId} {args : Array Value} {below : List Frame} {meth : Method} {c : Code} {H : Heap} {locs : List Loc} {cells slots : Nat} {Q : State → Prop} {ls : Array Slot} {D : va_G} {cy : Nat → ClassId} {sa : Nat → Nat} {de B : Nat} {ad : Ad} {S : St} {n : Nat → Nat} {th : Int32} {f : Nat → Int64} {g9 : Nat → UInt64} {b L : Nat} {xs : Nat → Int32} {j : Nat} (hfl : l.stackTraces = false) (hC : Cx p m c cL_law 9 s args RL D cy sa de B) (hS : va_S (AB B) s.heap H locs) (hX : va_X b L xs s s.heap) (hbl : b < s.heap.size) (hbA : ¬ AB B b) (hL : L ≤ 2560) (hi : 5 * j + 4 < L) (hl : lo ls 9 (LW b ad (nI (5 * j)) none none none)) (hG : GW D B ad (Vw cy de ad S n S n th (Xl cy f g9)) H) (hI : Inv S n) (hroom : cells + 9 ≤ 601024 ∧ slots + 56 ≤ 7293034) (k0 : cd_money (xs (5 * j + 1)) = 0 → ∀ (ad9 : Ad) (f2 : Nat → Int64) (g2 : Nat → UInt64) (H1 : Heap) (locs1 : List Loc) (ls1 : Array Slot), GW D B ad9 (Vw cy de ad9 S n S n 0 (Xl cy f2 g2)) H1 → va_S (AB B) s.heap H1 locs1 → lo ls1 9 (LW b ad9 (nI (5 * j)) none none none) → W p l e room_1 s m args below meth c H1 locs1 (cells + 9) (slots + 56) Q (F0 m 2593 ls1 [])) (k1 : ∀ (th9 : Int32) (H1 : Heap) (locs1 : List Loc) (ls1 : Array Slot), GW D B ad (Vw cy de ad S n S n th9 (Xl cy f g9)) H1 → va_S (AB B) s.heap H1 locs1 → lo ls1 9 (LW b ad (nI (5 * j)) none none none) → W p l e room_1 s m args below meth c H1 locs1 (cells + 9) (slots + 56) Q (F0 m 2593 ls1 [])) : W p l e room_1 s m args below meth c H locs cells slots Q (F0 m 2367 ls []) := by
  have hx := hC.x
  have hb := hC.b
  refine o_aload_n hx hb dL_law_2367 hl rfl ?_
  refine g_arg hC hS hX hbl hbA hL hi (q := 1) (by decide) hl rfl rfl (z := 1) rfl dL_law_2368 dL_law_2369 dL_law_2371 dL_law_2372 dL_law_2373 ?_
  refine o_aload_n hx hb dL_law_2374 hl rfl ?_
  refine k_L_points hfl hC hS hG hI ml_L_248 ⟨(Nat.le_of_ble_eq_true rfl), (Nat.le_of_ble_eq_true rfl)⟩ hl.1 (Nat.le_of_ble_eq_true rfl) dL_law_2375 ⟨show cells + 1 ≤ 601024 by omega, show slots + 6 ≤ 7293034 by omega⟩ (fun h0 ad9 H locs hA hG hS => ?_) (fun t9 ht4 ht0 h1 H locs hG hS => ?_)
  · have hl := LW_ag hA hl
    refine o_istore hx hb dL_law_2378 hl (by decide) rfl (fun ls hl => ?_)
    refine o_aload_n hx hb dL_law_2380 hl rfl ?_
    refine g_arg hC hS hX hbl hbA hL hi (q := 1) (by decide) hl rfl rfl (z := 1) rfl dL_law_2381 dL_law_2382 dL_law_2384 dL_law_2385 dL_law_2386 ?_
    refine k_X7_points hC hS hG hI ml_L_250 ⟨(Nat.le_of_ble_eq_true rfl), (Nat.le_of_ble_eq_true rfl)⟩ hl.1 (Nat.le_of_ble_eq_true rfl) dL_law_2387 ⟨show cells + 1 + 0 ≤ 601024 by omega, show slots + 6 + 0 ≤ 7293034 by omega⟩ (fun _ H locs hG hS => ?_) (fun _ t8 h8 h9 => absurd (h8.symm.trans h0) h9)
    refine o_istore hx hb dL_law_2390 hl (by decide) rfl (fun ls hl => ?_)
    refine o_aload_n hx hb dL_law_2392 hl rfl ?_
    refine k_X7_thrown hC hS hG trivial ml_L_144 ⟨(Nat.le_of_ble_eq_true rfl), (Nat.le_of_ble_eq_true rfl)⟩ hl.1 (Nat.le_of_ble_eq_true rfl) dL_law_2393 ⟨show cells + 1 + 0 + 0 ≤ 601024 by omega, show slots + 6 + 0 + 0 ≤ 7293034 by omega⟩ ?_
    refine o_iload hx hb dL_law_2396 hl rfl ?_
    refine lv_icmp_eq (tgt := 2403) hx hb dL_law_2398 (by decide) (fun _ => ?_) (fun h => absurd rfl h)
    refine o_iload hx hb dL_law_2403 hl rfl ?_
    refine lv_if_ne (tgt := 2420) hx hb dL_law_2405 (by decide) (fun h => absurd rfl h) (fun _ => ?_)
    refine o_aload_n hx hb dL_law_2408 hl rfl ?_
    refine lv_iconst (v := 0) hx hb dL_law_2409 (by decide) ?_
    refine g_lald hC hG V_out 0 rfl (by decide) (by decide) dL_law_2410 ?_
    refine bl_0 (x := (Int32.toInt64 (ptF S (biF S (xs (5 * j + 1)) (n 0)) (n 0)))) pk_uLs.symm ?_
    refine o_iload hx hb dL_law_2411 hl rfl ?_
    refine lv_i2l hx hb dL_law_2413 rfl ?_
    refine lv_lcmpE hx hb dL_law_2414 ?_
    refine lv_if_eq (tgt := 2420) hx hb dL_law_2415 (by decide) (fun _ => ?_) (fun h => absurd rfl h)
    refine lv_goto (tgt := 2593) hx hb dL_law_2420 (by decide) ?_
    refine W.widen (k := cells + 9) (n := slots + 56) (by omega) (by omega) ?_
    exact k0 h0 ad9 _ _ _ _ _ hG hS (LW_no hl)
  · have ht9 := nI_4 ht4 ht0
    refine o_istore hx hb dL_law_2378 hl (by decide) rfl (fun ls hl => ?_)
    refine o_aload_n hx hb dL_law_2380 hl rfl ?_
    refine g_arg hC hS hX hbl hbA hL hi (q := 1) (by decide) hl rfl rfl (z := 1) rfl dL_law_2381 dL_law_2382 dL_law_2384 dL_law_2385 dL_law_2386 ?_
    refine k_X7_points hC hS hG hI ml_L_250 ⟨(Nat.le_of_ble_eq_true rfl), (Nat.le_of_ble_eq_true rfl)⟩ hl.1 (Nat.le_of_ble_eq_true rfl) dL_law_2387 ⟨show cells + 1 + 0 ≤ 601024 by omega, show slots + 6 + 0 ≤ 7293034 by omega⟩ (fun h8 => absurd (h1.symm.trans h8) ht0) (fun r9 t8 h8 h9 H locs hG hS => ?_)
    obtain rfl : t8 = t9 := h8.symm.trans h1
    refine o_istore hx hb dL_law_2390 hl (by decide) rfl (fun ls hl => ?_)
    refine o_aload_n hx hb dL_law_2392 hl rfl ?_
    refine k_X7_thrown hC hS hG trivial ml_L_144 ⟨(Nat.le_of_ble_eq_true rfl), (Nat.le_of_ble_eq_true rfl)⟩ hl.1 (Nat.le_of_ble_eq_true rfl) dL_law_2393 ⟨show cells + 1 + 0 + 0 ≤ 601024 by omega, show slots + 6 + 0 + 0 ≤ 7293034 by omega⟩ ?_
    refine o_iload hx hb dL_law_2396 hl rfl ?_
    refine lv_icmp_eq (tgt := 2403) hx hb dL_law_2398 (by decide) (fun _ => ?_) (fun h => absurd rfl h)
    refine o_iload hx hb dL_law_2403 hl rfl ?_
    refine lv_if_ne (tgt := 2420) hx hb dL_law_2405 (by decide) (fun _ => ?_) (fun h => absurd h ht9)
    refine lv_goto (tgt := 2593) hx hb dL_law_2420 (by decide) ?_
    refine W.widen (k := cells + 9) (n := slots + 56) (by omega) (by omega) ?_
    exact k1 _ _ _ _ hG hS (LW_no hl)
set_option maxHeartbeats 2000000 in
set_option maxRecDepth 100000 in
theorem q_checksum {p : Program} {l : Launch} {e : Env} {s : State} {m : MethodId} {args : Array Value} {below : List Frame} {meth : Method} {c : Code} {H : Heap} {locs : List Loc} {cells slots : Nat} {Q : State → Prop} {ls : Array Slot} {D : va_G} {cy : Nat → ClassId} {sa : Nat → Nat} {de B : Nat} {ad : Ad} {S : St} {n : Nat → Nat} {th : Int32} {f : Nat → Int64} {g9 : Nat → UInt64} {b L : Nat} {xs : Nat → Int32} {j : Nat} (hfl : l.stackTraces = false) (hC : Cx p m c cL_law 9 s args RL D cy sa de B) (hS : va_S (AB B) s.heap H locs) (hX : va_X b L xs s s.heap) (hbl : b < s.heap.size) (hbA : ¬ AB B b) (hL : L ≤ 2560) (hi : 5 * j + 4 < L) (hl : lo ls 9 (LW b ad (nI (5 * j)) none none none)) (hG : GW D B ad (Vw cy de ad S n S n th (Xl cy f g9)) H) (hI : Inv S n) (hroom : cells + 9 ≤ 601024 ∧ slots + 56 ≤ 7293034) (k1 : ∀ (th9 : Int32) (H1 : Heap) (locs1 : List Loc) (ls1 : Array Slot), GW D B ad (Vw cy de ad S n S n th9 (Xl cy f g9)) H1 → va_S (AB B) s.heap H1 locs1 → lo ls1 9 (LW b ad (nI (5 * j)) none none none) → W p l e room_1 s m args below meth c H1 locs1 (cells + 9) (slots + 56) Q (F0 m 2593 ls1 [])) : W p l e room_1 s m args below meth c H locs cells slots Q (F0 m 2423 ls []) := by
  have hx := hC.x
  have hb := hC.b
  refine o_aload_n hx hb dL_law_2423 hl rfl ?_
  refine k_X6_checksum hC hS hG hI.1 ml_L_251 ⟨(Nat.le_of_ble_eq_true rfl), (Nat.le_of_ble_eq_true rfl)⟩ hl.1 (Nat.le_of_ble_eq_true rfl) dL_law_2424 ⟨show cells + 0 ≤ 601024 by omega, show slots + 0 ≤ 7293034 by omega⟩ ?_
  refine o_aload_n hx hb dL_law_2427 hl rfl ?_
  refine k_X7_checksum hC hS hG hI ml_L_255 ⟨(Nat.le_of_ble_eq_true rfl), (Nat.le_of_ble_eq_true rfl)⟩ hl.1 (Nat.le_of_ble_eq_true rfl) dL_law_2428 ⟨show cells + 0 ≤ 601024 by omega, show slots + 0 ≤ 7293034 by omega⟩ (fun H locs hG hS => ?_)
  refine lv_lcmpE hx hb dL_law_2431 ?_
  refine lv_if_eq (tgt := 2593) hx hb dL_law_2432 (by decide) (fun _ => ?_) (fun h => absurd rfl h)
  refine W.widen (k := cells + 9) (n := slots + 56) (by omega) (by omega) ?_
  exact k1 _ _ _ _ hG hS hl
set_option maxHeartbeats 4000000 in
set_option maxRecDepth 100000 in
theorem q_fallenShare {p : Program} {l : Launch} {e : Env} {s : State} {m : MethodId} {args : Array Value} {below : List Frame} {meth : Method} {c : Code} {H : Heap} {locs : List Loc} {cells slots : Nat} {Q : State → Prop} {ls : Array Slot} {D : va_G} {cy : Nat → ClassId} {sa : Nat → Nat} {de B : Nat} {ad : Ad} {S : St} {n : Nat → Nat} {th : Int32} {f : Nat → Int64} {g9 : Nat → UInt64} {b L : Nat} {xs : Nat → Int32} {j : Nat} (hfl : l.stackTraces = false) (hC : Cx p m c cL_law 9 s args RL D cy sa de B) (hS : va_S (AB B) s.heap H locs) (hX : va_X b L xs s s.heap) (hbl : b < s.heap.size) (hbA : ¬ AB B b) (hL : L ≤ 2560) (hi : 5 * j + 4 < L) (hl : lo ls 9 (LW b ad (nI (5 * j)) none none none)) (hG : GW D B ad (Vw cy de ad S n S n th (Xl cy f g9)) H) (hI : Inv S n) (hroom : cells + 9 ≤ 601024 ∧ slots + 56 ≤ 7293034) (k0 : cd_share S n = 0 → ∀ (ad9 : Ad) (f2 : Nat → Int64) (g2 : Nat → UInt64) (H1 : Heap) (locs1 : List Loc) (ls1 : Array Slot), GW D B ad9 (Vw cy de ad9 S n S n 0 (Xl cy f2 g2)) H1 → va_S (AB B) s.heap H1 locs1 → lo ls1 9 (LW b ad9 (nI (5 * j)) none none none) → W p l e room_1 s m args below meth c H1 locs1 (cells + 9) (slots + 56) Q (F0 m 2593 ls1 [])) (k1 : ∀ (th9 : Int32) (H1 : Heap) (locs1 : List Loc) (ls1 : Array Slot), GW D B ad (Vw cy de ad S n S n th9 (Xl cy f g9)) H1 → va_S (AB B) s.heap H1 locs1 → lo ls1 9 (LW b ad (nI (5 * j)) none none none) → W p l e room_1 s m args below meth c H1 locs1 (cells + 9) (slots + 56) Q (F0 m 2593 ls1 [])) : W p l e room_1 s m args below meth c H locs cells slots Q (F0 m 2437 ls []) := by
  have hx := hC.x
  have hb := hC.b
  refine o_aload_n hx hb dL_law_2437 hl rfl ?_
  refine o_aload hx hb dL_law_2438 hl rfl ?_
  refine k_L_fallenShare hfl hC hS hG hI ml_L_256 ⟨(Nat.le_of_ble_eq_true rfl), (Nat.le_of_ble_eq_true rfl)⟩ hl.1 (Nat.le_of_ble_eq_true rfl) dL_law_2440 ⟨show cells + 1 ≤ 601024 by omega, show slots + 6 ≤ 7293034 by omega⟩ (fun h0 ad9 H locs hA hG hS => ?_) (fun t9 ht4 ht0 h1 H locs hG hS => ?_)
  · have hl := LW_ag hA hl
    refine o_istore hx hb dL_law_2443 hl (by decide) rfl (fun ls hl => ?_)
    refine o_aload_n hx hb dL_law_2445 hl rfl ?_
    refine k_X7_fallenShare hC hS hG hI ml_L_259 ⟨(Nat.le_of_ble_eq_true rfl), (Nat.le_of_ble_eq_true rfl)⟩ hl.1 (Nat.le_of_ble_eq_true rfl) dL_law_2446 ⟨show cells + 1 + 0 ≤ 601024 by omega, show slots + 6 + 0 ≤ 7293034 by omega⟩ (fun _ H locs hG hS => ?_) (fun _ t8 h8 h9 => absurd (h8.symm.trans h0) h9)
    refine o_fstore hx hb dL_law_2449 hl (by decide) rfl (fun ls hl => ?_)
    refine o_aload_n hx hb dL_law_2451 hl rfl ?_
    refine k_X7_thrown hC hS hG trivial ml_L_144 ⟨(Nat.le_of_ble_eq_true rfl), (Nat.le_of_ble_eq_true rfl)⟩ hl.1 (Nat.le_of_ble_eq_true rfl) dL_law_2452 ⟨show cells + 1 + 0 + 0 ≤ 601024 by omega, show slots + 6 + 0 + 0 ≤ 7293034 by omega⟩ ?_
    refine o_iload hx hb dL_law_2455 hl rfl ?_
    refine lv_icmp_eq (tgt := 2462) hx hb dL_law_2457 (by decide) (fun _ => ?_) (fun h => absurd rfl h)
    refine o_iload hx hb dL_law_2462 hl rfl ?_
    refine lv_if_ne (tgt := 2500) hx hb dL_law_2464 (by decide) (fun h => absurd rfl h) (fun _ => ?_)
    refine o_aload hx hb dL_law_2467 hl rfl ?_
    refine lv_iconst (v := 0) hx hb dL_law_2469 (by decide) ?_
    refine g_dald hC hG V_outD 0 rfl (by decide) (by decide) dL_law_2470 ?_
    refine bd_0 (x := (FP.f2d (vl_share S n))) vf_us.symm ?_
    refine o_fload hx hb dL_law_2471 hl rfl ?_
    refine lv_f2d hx hb dL_law_2473 (share_n64 hI h0) ?_
    refine lv_dcmp hx hb dL_law_2474 ?_
    refine bi_0 (share_cmp hI h0).symm ?_
    refine lv_if_eq (tgt := 2500) hx hb dL_law_2475 (by decide) (fun _ => ?_) (fun h => absurd rfl h)
    refine lv_goto (tgt := 2593) hx hb dL_law_2500 (by decide) ?_
    refine W.widen (k := cells + 9) (n := slots + 56) (by omega) (by omega) ?_
    exact k0 h0 ad9 _ _ _ _ _ hG hS (LW_no hl)
  · have ht9 := nI_4 ht4 ht0
    refine o_istore hx hb dL_law_2443 hl (by decide) rfl (fun ls hl => ?_)
    refine o_aload_n hx hb dL_law_2445 hl rfl ?_
    refine k_X7_fallenShare hC hS hG hI ml_L_259 ⟨(Nat.le_of_ble_eq_true rfl), (Nat.le_of_ble_eq_true rfl)⟩ hl.1 (Nat.le_of_ble_eq_true rfl) dL_law_2446 ⟨show cells + 1 + 0 ≤ 601024 by omega, show slots + 6 + 0 ≤ 7293034 by omega⟩ (fun h8 => absurd (h1.symm.trans h8) ht0) (fun r9 t8 h8 h9 H locs hG hS => ?_)
    obtain rfl : t8 = t9 := h8.symm.trans h1
    refine o_fstore hx hb dL_law_2449 hl (by decide) rfl (fun ls hl => ?_)
    refine o_aload_n hx hb dL_law_2451 hl rfl ?_
    refine k_X7_thrown hC hS hG trivial ml_L_144 ⟨(Nat.le_of_ble_eq_true rfl), (Nat.le_of_ble_eq_true rfl)⟩ hl.1 (Nat.le_of_ble_eq_true rfl) dL_law_2452 ⟨show cells + 1 + 0 + 0 ≤ 601024 by omega, show slots + 6 + 0 + 0 ≤ 7293034 by omega⟩ ?_
    refine o_iload hx hb dL_law_2455 hl rfl ?_
    refine lv_icmp_eq (tgt := 2462) hx hb dL_law_2457 (by decide) (fun _ => ?_) (fun h => absurd rfl h)
    refine o_iload hx hb dL_law_2462 hl rfl ?_
    refine lv_if_ne (tgt := 2500) hx hb dL_law_2464 (by decide) (fun _ => ?_) (fun h => absurd h ht9)
    refine lv_goto (tgt := 2593) hx hb dL_law_2500 (by decide) ?_
    refine W.widen (k := cells + 9) (n := slots + 56) (by omega) (by omega) ?_
    exact k1 _ _ _ _ hG hS (LW_no hl)
set_option maxHeartbeats 4000000 in
set_option maxRecDepth 100000 in
theorem q_meanLack {p : Program} {l : Launch} {e : Env} {s : State} {m : MethodId} {args : Array Value} {below : List Frame} {meth : Method} {c : Code} {H : Heap} {locs : List Loc} {cells slots : Nat} {Q : State → Prop} {ls : Array Slot} {D : va_G} {cy : Nat → ClassId} {sa : Nat → Nat} {de B : Nat} {ad : Ad} {S : St} {n : Nat → Nat} {th : Int32} {f : Nat → Int64} {g9 : Nat → UInt64} {b L : Nat} {xs : Nat → Int32} {j : Nat} (hfl : l.stackTraces = false) (hC : Cx p m c cL_law 9 s args RL D cy sa de B) (hS : va_S (AB B) s.heap H locs) (hX : va_X b L xs s s.heap) (hbl : b < s.heap.size) (hbA : ¬ AB B b) (hL : L ≤ 2560) (hi : 5 * j + 4 < L) (hl : lo ls 9 (LW b ad (nI (5 * j)) none none none)) (hG : GW D B ad (Vw cy de ad S n S n th (Xl cy f g9)) H) (hI : Inv S n) (hroom : cells + 9 ≤ 601024 ∧ slots + 56 ≤ 7293034) (k0 : cd_ath n (xs (5 * j + 1)) = 0 → ∀ (ad9 : Ad) (f2 : Nat → Int64) (g2 : Nat → UInt64) (H1 : Heap) (locs1 : List Loc) (ls1 : Array Slot), GW D B ad9 (Vw cy de ad9 S n S n 0 (Xl cy f2 g2)) H1 → va_S (AB B) s.heap H1 locs1 → lo ls1 9 (LW b ad9 (nI (5 * j)) none none none) → W p l e room_1 s m args below meth c H1 locs1 (cells + 9) (slots + 56) Q (F0 m 2593 ls1 [])) (k1 : ∀ (th9 : Int32) (H1 : Heap) (locs1 : List Loc) (ls1 : Array Slot), GW D B ad (Vw cy de ad S n S n th9 (Xl cy f g9)) H1 → va_S (AB B) s.heap H1 locs1 → lo ls1 9 (LW b ad (nI (5 * j)) none none none) → W p l e room_1 s m args below meth c H1 locs1 (cells + 9) (slots + 56) Q (F0 m 2593 ls1 [])) : W p l e room_1 s m args below meth c H locs cells slots Q (F0 m 2503 ls []) := by
  have hx := hC.x
  have hb := hC.b
  refine o_aload_n hx hb dL_law_2503 hl rfl ?_
  refine g_arg hC hS hX hbl hbA hL hi (q := 1) (by decide) hl rfl rfl (z := 1) rfl dL_law_2504 dL_law_2505 dL_law_2507 dL_law_2508 dL_law_2509 ?_
  refine o_aload hx hb dL_law_2510 hl rfl ?_
  refine k_L_meanLack hfl hC hS hG hI ml_L_260 ⟨(Nat.le_of_ble_eq_true rfl), (Nat.le_of_ble_eq_true rfl)⟩ hl.1 (Nat.le_of_ble_eq_true rfl) dL_law_2512 ⟨show cells + 1 ≤ 601024 by omega, show slots + 6 ≤ 7293034 by omega⟩ (fun h0 ad9 H locs hA hG hS => ?_) (fun t9 ht4 ht0 h1 H locs hG hS => ?_)
  · have hl := LW_ag hA hl
    refine o_istore hx hb dL_law_2515 hl (by decide) rfl (fun ls hl => ?_)
    refine o_aload_n hx hb dL_law_2517 hl rfl ?_
    refine g_arg hC hS hX hbl hbA hL hi (q := 1) (by decide) hl rfl rfl (z := 1) rfl dL_law_2518 dL_law_2519 dL_law_2521 dL_law_2522 dL_law_2523 ?_
    refine k_X7_meanLack hC hS hG hI ml_L_263 ⟨(Nat.le_of_ble_eq_true rfl), (Nat.le_of_ble_eq_true rfl)⟩ hl.1 (Nat.le_of_ble_eq_true rfl) dL_law_2524 ⟨show cells + 1 + 0 ≤ 601024 by omega, show slots + 6 + 0 ≤ 7293034 by omega⟩ (fun _ H locs hG hS => ?_) (fun _ t8 h8 h9 => absurd (h8.symm.trans h0) h9)
    refine o_dstore7 hx hb dL_law_2527 hl (fun ls hl => ?_)
    refine o_aload_n hx hb dL_law_2529 hl rfl ?_
    refine k_X7_thrown hC hS hG trivial ml_L_144 ⟨(Nat.le_of_ble_eq_true rfl), (Nat.le_of_ble_eq_true rfl)⟩ hl.1 (Nat.le_of_ble_eq_true rfl) dL_law_2530 ⟨show cells + 1 + 0 + 0 ≤ 601024 by omega, show slots + 6 + 0 + 0 ≤ 7293034 by omega⟩ ?_
    refine o_iload hx hb dL_law_2533 hl rfl ?_
    refine lv_icmp_eq (tgt := 2540) hx hb dL_law_2535 (by decide) (fun _ => ?_) (fun h => absurd rfl h)
    refine o_iload hx hb dL_law_2540 hl rfl ?_
    refine lv_if_ne (tgt := 2577) hx hb dL_law_2542 (by decide) (fun h => absurd rfl h) (fun _ => ?_)
    refine o_aload hx hb dL_law_2545 hl rfl ?_
    refine lv_iconst (v := 0) hx hb dL_law_2547 (by decide) ?_
    refine g_dald hC hG V_outD 0 rfl (by decide) (by decide) dL_law_2548 ?_
    refine bd_0 (x := (vl_mean S (ci (xs (5 * j + 1))))) vf_us.symm ?_
    refine o_dload hx hb dL_law_2549 hl rfl ?_
    refine lv_dcmp hx hb dL_law_2551 ?_
    refine bi_0 (mean_c hI h0).symm ?_
    refine lv_if_eq (tgt := 2577) hx hb dL_law_2552 (by decide) (fun _ => ?_) (fun h => absurd rfl h)
    refine lv_goto (tgt := 2593) hx hb dL_law_2577 (by decide) ?_
    refine W.widen (k := cells + 9) (n := slots + 56) (by omega) (by omega) ?_
    exact k0 h0 ad9 _ _ _ _ _ hG hS (LW_no hl)
  · have ht9 := nI_4 ht4 ht0
    refine o_istore hx hb dL_law_2515 hl (by decide) rfl (fun ls hl => ?_)
    refine o_aload_n hx hb dL_law_2517 hl rfl ?_
    refine g_arg hC hS hX hbl hbA hL hi (q := 1) (by decide) hl rfl rfl (z := 1) rfl dL_law_2518 dL_law_2519 dL_law_2521 dL_law_2522 dL_law_2523 ?_
    refine k_X7_meanLack hC hS hG hI ml_L_263 ⟨(Nat.le_of_ble_eq_true rfl), (Nat.le_of_ble_eq_true rfl)⟩ hl.1 (Nat.le_of_ble_eq_true rfl) dL_law_2524 ⟨show cells + 1 + 0 ≤ 601024 by omega, show slots + 6 + 0 ≤ 7293034 by omega⟩ (fun h8 => absurd (h1.symm.trans h8) ht0) (fun r9 t8 h8 h9 H locs hG hS => ?_)
    obtain rfl : t8 = t9 := h8.symm.trans h1
    refine o_dstore7 hx hb dL_law_2527 hl (fun ls hl => ?_)
    refine o_aload_n hx hb dL_law_2529 hl rfl ?_
    refine k_X7_thrown hC hS hG trivial ml_L_144 ⟨(Nat.le_of_ble_eq_true rfl), (Nat.le_of_ble_eq_true rfl)⟩ hl.1 (Nat.le_of_ble_eq_true rfl) dL_law_2530 ⟨show cells + 1 + 0 + 0 ≤ 601024 by omega, show slots + 6 + 0 + 0 ≤ 7293034 by omega⟩ ?_
    refine o_iload hx hb dL_law_2533 hl rfl ?_
    refine lv_icmp_eq (tgt := 2540) hx hb dL_law_2535 (by decide) (fun _ => ?_) (fun h => absurd rfl h)
    refine o_iload hx hb dL_law_2540 hl rfl ?_
    refine lv_if_ne (tgt := 2577) hx hb dL_law_2542 (by decide) (fun _ => ?_) (fun h => absurd h ht9)
    refine lv_goto (tgt := 2593) hx hb dL_law_2577 (by decide) ?_
    refine W.widen (k := cells + 9) (n := slots + 56) (by omega) (by omega) ?_
    exact k1 _ _ _ _ hG hS (LW_no hl)
set_option maxHeartbeats 2000000 in
set_option maxRecDepth 100000 in
theorem q_isSound {p : Program} {l : Launch} {e : Env} {s : State} {m : MethodId} {args : Array Value} {below : List Frame} {meth : Method} {c : Code} {H : Heap} {locs : List Loc} {cells slots : Nat} {Q : State → Prop} {ls : Array Slot} {D : va_G} {cy : Nat → ClassId} {sa : Nat → Nat} {de B : Nat} {ad : Ad} {S : St} {n : Nat → Nat} {th : Int32} {f : Nat → Int64} {g9 : Nat → UInt64} {b L : Nat} {xs : Nat → Int32} {j : Nat} (hfl : l.stackTraces = false) (hC : Cx p m c cL_law 9 s args RL D cy sa de B) (hS : va_S (AB B) s.heap H locs) (hX : va_X b L xs s s.heap) (hbl : b < s.heap.size) (hbA : ¬ AB B b) (hL : L ≤ 2560) (hi : 5 * j + 4 < L) (hl : lo ls 9 (LW b ad (nI (5 * j)) none none none)) (hG : GW D B ad (Vw cy de ad S n S n th (Xl cy f g9)) H) (hI : Inv S n) (hroom : cells + 9 ≤ 601024 ∧ slots + 56 ≤ 7293034) (hsnd : soundP S n) (k1 : ∀ (th9 : Int32) (H1 : Heap) (locs1 : List Loc) (ls1 : Array Slot), GW D B ad (Vw cy de ad S n S n th9 (Xl cy f g9)) H1 → va_S (AB B) s.heap H1 locs1 → lo ls1 9 (LW b ad (nI (5 * j)) none none none) → W p l e room_1 s m args below meth c H1 locs1 (cells + 9) (slots + 56) Q (F0 m 2593 ls1 [])) : W p l e room_1 s m args below meth c H locs cells slots Q (F0 m 2580 ls []) := by
  have hx := hC.x
  have hb := hC.b
  refine o_aload_n hx hb dL_law_2580 hl rfl ?_
  refine k_X6_isSound hC hS hG hI.1 ml_L_264 ⟨(Nat.le_of_ble_eq_true rfl), (Nat.le_of_ble_eq_true rfl)⟩ hl.1 (Nat.le_of_ble_eq_true rfl) dL_law_2581 ⟨show cells + 0 ≤ 601024 by omega, show slots + 0 ≤ 7293034 by omega⟩ (fun _ => ?_) (fun h => absurd hsnd h)
  refine o_aload_n hx hb dL_law_2584 hl rfl ?_
  refine k_X7_isSound hC hS hG trivial ml_L_268 ⟨(Nat.le_of_ble_eq_true rfl), (Nat.le_of_ble_eq_true rfl)⟩ hl.1 (Nat.le_of_ble_eq_true rfl) dL_law_2585 ⟨show cells + 0 ≤ 601024 by omega, show slots + 0 ≤ 7293034 by omega⟩ (fun H locs hG hS => ?_)
  refine lv_icmp_eq (tgt := 2593) hx hb dL_law_2588 (by decide) (fun _ => ?_) (fun h => absurd rfl h)
  refine W.widen (k := cells + 9) (n := slots + 56) (by omega) (by omega) ?_
  exact k1 _ _ _ _ hG hS hl
