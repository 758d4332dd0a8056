/-! THE LAW'S BEGINNING: three athletes, four classifiers, the last wrong calls. -/
set_option maxHeartbeats 4000000 in
set_option maxRecDepth 100000 in
theorem set5 {p : Program} {l : Launch} {e : Env} {s : State} {m : MethodId} {args : Array Value} {below : List Frame} {meth : Method} {c : Code} {Q : State → Prop} {D : va_G} {cy : Nat → ClassId} {sa : Nat → Nat} {de B : Nat} {T : St} {k : Nat → Nat} {th : Int32} {b C0 S0 K : Nat} (hfl : l.stackTraces = false) (hC : Cx p m c cL_law 29 s args RL D cy sa de B) (hroom : C0 + 100 ≤ 847444 ∧ S0 + 700 ≤ 6559293) (kend : ∀ (ad : Ad) (S : St) (n : Nat → Nat) (L : St) (H1 : Heap) (locs1 : List Loc) (ls1 : Array Slot), Inv S n → AA S n L K 3 → GW D B ad (WL cy de ad S n T k th K 10 L) H1 → va_S (AB B) s.heap H1 locs1 → lo ls1 29 [some (.ref b), some (.ref (ad 0 0 0)), some (.int 1), some (.int (nI K)), some (.ref (ad 20 0 0)), some (.ref (ad 20 1 0)), some (.ref (ad 20 2 0)), some (.ref (ad 20 3 0)), some (.ref (ad 20 4 0)), some (.ref (ad 20 5 0)), some (.ref (ad 20 6 0)), some (.ref (ad 20 7 0)), some (.ref (ad 20 8 0)), some (.ref (ad 20 9 0)), some (.int 0), none, none, none, none, none, none, none, none, none, none, none, none, none, none] → W p l e room_1 s m args below meth c H1 locs1 (C0 + 100) (S0 + 700) Q (F0 m 418 ls1 [])) : ∀ (r a : Nat), a + r = 3 → ∀ (ad : Ad) (S : St) (n : Nat → Nat) (L : St) (H : Heap) (locs : List Loc) (ls : Array Slot), Inv S n → AA S n L K a → GW D B ad (WL cy de ad S n T k th K 10 L) H → va_S (AB B) s.heap H locs → lo ls 29 [some (.ref b), some (.ref (ad 0 0 0)), some (.int 1), some (.int (nI K)), some (.ref (ad 20 0 0)), some (.ref (ad 20 1 0)), some (.ref (ad 20 2 0)), some (.ref (ad 20 3 0)), some (.ref (ad 20 4 0)), some (.ref (ad 20 5 0)), some (.ref (ad 20 6 0)), some (.ref (ad 20 7 0)), some (.ref (ad 20 8 0)), some (.ref (ad 20 9 0)), some (.int 0), some (.int (nI a)), none, none, none, none, none, none, none, none, none, none, none, none, none] → W p l e room_1 s m args below meth c H locs (C0 + 30 * a) (S0 + 200 * a) Q (F0 m 281 ls []) := by
  have hx := hC.x
  have hb := hC.b
  intro r
  induction r with
  | zero =>
    intro a ha3 ad S n L H locs ls hI hAA hG hS hl
    obtain rfl : a = 3 := by omega
    refine o_iload hx hb dL_law_281 hl rfl ?_
    refine lv_iconst (v := 3) hx hb dL_law_283 (by decide) ?_
    refine n_icmp_ge (tgt := 418) hx hb 3 3 rfl rfl (by omega) (by omega) dL_law_284 (by decide) (fun _ => ?_) (fun h => absurd h (by omega))
    refine W.widen (k := C0 + 100) (n := S0 + 700) (by omega) (by omega) ?_
    exact kend ad S n L _ _ _ hI hAA hG hS (lo_none (i := 15) hl)
  | succ r ih =>
    intro a ha3 ad S n L H locs ls hI hAA hG hS hl
    have ha : a < 3 := by omega
    have e0 : n 0 = a := hAA.1.1
    have e1 : nUp n 0 1 = a := hAA.1.2.1
    have za : ci (nI a) = a := nI_clamp (by omega)
    have hAA2 := AA_s hAA hI
    have e3 : nUp (nUp n 0) 1 0 = a + 1 := hAA2.1.1
    refine o_iload hx hb dL_law_281 hl rfl ?_
    refine lv_iconst (v := 3) hx hb dL_law_283 (by decide) ?_
    refine n_icmp_ge (tgt := 418) hx hb a 3 rfl rfl (by omega) (by omega) dL_law_284 (by decide) (fun h => absurd h (by omega)) (fun _ => ?_)
    refine o_iload_n hx hb dL_law_287 hl rfl ?_
    refine o_aload_n hx hb dL_law_288 hl rfl ?_
    refine o_iload hx hb dL_law_289 hl rfl ?_
    have hcd : cd_athlete n (nI a) = 0 := cd_athA ha e0
    have hI1 := inv_athlete hI hcd
    rw [e0] at hI1
    refine kv_L_athlete hfl hC hS hG ⟨hI, XL_19⟩ ml_L_85 ⟨(Nat.le_of_ble_eq_true rfl), (Nat.le_of_ble_eq_true rfl)⟩ hl.1 (Nat.le_of_ble_eq_true rfl) dL_law_291 ⟨show C0 + 30 * a + 9 ≤ 847444 by omega, show S0 + 200 * a + 56 ≤ 6559293 by omega⟩ hcd (fun ad9 H locs hA hG hS => ?_)
    have hG : GW D B ad9 (WL cy de ad9 (atS S a (nI a)) (nUp n 0) T k th K 10 L) H := by
      show GW D B ad9 (Vw cy de ad9 (atS S a (nI a)) (nUp n 0) T k th (XL cy (ad9 21) K 10 L)) H
      rw [hA 21 (Or.inr (by decide))]; rw [e0] at hG; exact hG
    have hl : lo ls 29 [some (.ref b), some (.ref (ad9 0 0 0)), some (.int 1), some (.int (nI K)), some (.ref (ad9 20 0 0)), some (.ref (ad9 20 1 0)), some (.ref (ad9 20 2 0)), some (.ref (ad9 20 3 0)), some (.ref (ad9 20 4 0)), some (.ref (ad9 20 5 0)), some (.ref (ad9 20 6 0)), some (.ref (ad9 20 7 0)), some (.ref (ad9 20 8 0)), some (.ref (ad9 20 9 0)), some (.int 0), some (.int (nI a)), none, none, none, none, none, none, none, none, none, none, none, none, none] := by rw [hA 0 (Or.inl rfl), hA 20 (Or.inr (by decide))]; exact hl
    refine bi_0 (x := nI a) (by rw [e0]) ?_
    refine o_iload hx hb dL_law_294 hl rfl ?_
    refine lv_icmp_ne (tgt := 362) hx hb dL_law_296 (by decide) (fun h => absurd (rfl) h) (fun _ => ?_)
    refine o_aload_n hx hb dL_law_299 hl rfl ?_
    refine lv_iconst (v := 3) hx hb dL_law_300 (by decide) ?_
    refine o_iload hx hb dL_law_301 hl rfl ?_
    refine lv_iconst (v := 2) hx hb dL_law_303 (by decide) ?_
    refine lv_irem hx hb dL_law_304 (by decide) ?_
    refine bi_0 (x := nI (a % 2)) (nI_rem (a := a) (b := 2) (by omega) (by decide)).symm ?_
    refine lv_iadd hx hb dL_law_305 ?_
    refine bi_0 (x := nI (3 + a % 2)) (nI_add 3 (a % 2)).symm ?_
    have hcd2 : cd_classifier (nUp n 0) (nI (3 + a % 2)) = 0 := cd_claA (by omega) (by omega)
    have hI2 := inv_classifier hI1 hcd2
    rw [e1] at hI2
    have hI2 : Inv (aS S a) (nUp (nUp n 0) 1) := hI2
    refine kv_L_classifier hfl hC hS hG ⟨hI1, XL_19⟩ ml_L_88 ⟨(Nat.le_of_ble_eq_true rfl), (Nat.le_of_ble_eq_true rfl)⟩ hl.1 (Nat.le_of_ble_eq_true rfl) dL_law_306 ⟨show C0 + 30 * a + 9 + 3 ≤ 847444 by omega, show S0 + 200 * a + 56 + 29 ≤ 6559293 by omega⟩ hcd2 (fun ad9 H locs hA hG hS => ?_)
    have hG : GW D B ad9 (WL cy de ad9 (aS S a) (nUp (nUp n 0) 1) T k th K 10 L) H := by
      show GW D B ad9 (Vw cy de ad9 (clS (atS S a (nI a)) a (nI (3 + a % 2))) (nUp (nUp n 0) 1) T k th (XL cy (ad9 21) K 10 L)) H
      rw [hA 21 (Or.inr (by decide))]; rw [e1] at hG; exact hG
    have hl : lo ls 29 [some (.ref b), some (.ref (ad9 0 0 0)), some (.int 1), some (.int (nI K)), some (.ref (ad9 20 0 0)), some (.ref (ad9 20 1 0)), some (.ref (ad9 20 2 0)), some (.ref (ad9 20 3 0)), some (.ref (ad9 20 4 0)), some (.ref (ad9 20 5 0)), some (.ref (ad9 20 6 0)), some (.ref (ad9 20 7 0)), some (.ref (ad9 20 8 0)), some (.ref (ad9 20 9 0)), some (.int 0), some (.int (nI a)), none, none, none, none, none, none, none, none, none, none, none, none, none] := by rw [hA 0 (Or.inl rfl), hA 20 (Or.inr (by decide))]; exact hl
    refine bi_0 (x := nI a) (by rw [e1]) ?_
    refine o_iload hx hb dL_law_309 hl rfl ?_
    refine lv_icmp_ne (tgt := 362) hx hb dL_law_311 (by decide) (fun h => absurd (rfl) h) (fun _ => ?_)
    have h8 : aS S a 8 a 0 = 0 := by rw [aS_c (by decide)]; exact (hI.2.1 a (by omega)).1
    refine o_aload_n hx hb dL_law_314 hl rfl ?_
    refine o_iload hx hb dL_law_315 hl rfl ?_
    refine lv_iconst (v := 0) hx hb dL_law_317 (by decide) ?_
    refine kx_L_found (t0 := 3) hfl hC hS hG ⟨hI2, XL_19⟩ ml_L_101 ⟨(Nat.le_of_ble_eq_true rfl), (Nat.le_of_ble_eq_true rfl)⟩ hl.1 (Nat.le_of_ble_eq_true rfl) dL_law_318 ⟨show C0 + 30 * a + 9 + 3 + 3 ≤ 847444 by omega, show S0 + 200 * a + 56 + 29 + 18 ≤ 6559293 by omega⟩ (by decide) (cd_fou3 (by omega) (by omega) h8) (fun H locs hG hS => ?_)
    refine lv_ldc hx hb hC.o (hC.t _ ct_L_36) dL_law_321 ?_
    refine lv_icmp_ne (tgt := 362) hx hb dL_law_323 (by decide) (fun h => absurd (rfl) h) (fun _ => ?_)
    refine o_aload_n hx hb dL_law_326 hl rfl ?_
    refine o_iload hx hb dL_law_327 hl rfl ?_
    refine kv_L_status hfl hC hS hG ⟨hI2, XL_19⟩ ml_L_104 ⟨(Nat.le_of_ble_eq_true rfl), (Nat.le_of_ble_eq_true rfl)⟩ hl.1 (Nat.le_of_ble_eq_true rfl) dL_law_329 ⟨show C0 + 30 * a + 9 + 3 + 3 + 1 ≤ 847444 by omega, show S0 + 200 * a + 56 + 29 + 18 + 6 ≤ 6559293 by omega⟩ (cd_ath0 (by omega)) (fun H locs hG hS => ?_)
    refine bi_0 (x := 45) (by rw [za, aS_9]) ?_
    refine lv_bipush (v := 45) hx hb dL_law_332 (by decide) ?_
    refine lv_icmp_ne (tgt := 362) hx hb dL_law_334 (by decide) (fun h => absurd (rfl) h) (fun _ => ?_)
    refine o_aload_n hx hb dL_law_337 hl rfl ?_
    refine o_iload hx hb dL_law_338 hl rfl ?_
    refine kv_L_classOf hfl hC hS hG ⟨hI2, XL_19⟩ ml_L_106 ⟨(Nat.le_of_ble_eq_true rfl), (Nat.le_of_ble_eq_true rfl)⟩ hl.1 (Nat.le_of_ble_eq_true rfl) dL_law_340 ⟨show C0 + 30 * a + 9 + 3 + 3 + 1 + 1 ≤ 847444 by omega, show S0 + 200 * a + 56 + 29 + 18 + 6 + 6 ≤ 6559293 by omega⟩ (cd_ath0 (by omega)) (fun H locs hG hS => ?_)
    refine bi_0 (x := -1) (by rw [za, aS_10]) ?_
    refine lv_iconst (v := (-1)) hx hb dL_law_343 (by decide) ?_
    refine lv_icmp_ne (tgt := 362) hx hb dL_law_344 (by decide) (fun h => absurd (rfl) h) (fun _ => ?_)
    refine o_aload_n hx hb dL_law_347 hl rfl ?_
    refine o_iload hx hb dL_law_348 hl rfl ?_
    refine kx_L_until (t0 := 2) hfl hC hS hG ⟨hI2, XL_19⟩ ml_L_108 ⟨(Nat.le_of_ble_eq_true rfl), (Nat.le_of_ble_eq_true rfl)⟩ hl.1 (Nat.le_of_ble_eq_true rfl) dL_law_350 ⟨show C0 + 30 * a + 9 + 3 + 3 + 1 + 1 + 2 ≤ 847444 by omega, show S0 + 200 * a + 56 + 29 + 18 + 6 + 6 + 12 ≤ 6559293 by omega⟩ (by decide) (cd_until2 (by omega) (by omega) (by rw [aS_9]; decide) (by rw [aS_9]; decide)) (fun H locs hG hS => ?_)
    refine lv_ldc hx hb hC.o (hC.t _ ct_L_20) dL_law_353 ?_
    refine lv_icmp_ne (tgt := 362) hx hb dL_law_355 (by decide) (fun h => absurd (rfl) h) (fun _ => ?_)
    refine lv_iconst (v := 1) hx hb dL_law_358 (by decide) ?_
    refine lv_goto (tgt := 363) hx hb dL_law_359 (by decide) ?_
    refine lv_iand hx hb dL_law_363 ?_
    refine bi_0 (x := 1) (by decide) ?_
    refine o_istore_n hx hb dL_law_364 hl (by decide) rfl (fun ls hl => ?_)
    refine o_aload hx hb dL_law_365 hl rfl ?_
    refine o_iload hx hb dL_law_367 hl rfl ?_
    refine lv_iconst (v := (-1)) hx hb dL_law_369 (by decide) ?_
    refine g_iast hC hG hS (V_c (i := 7) (by decide) (by decide) (by decide)) (a) rfl (by omega) (by decide) (P_c (by decide) (by decide) (by decide)) dL_law_370 (fun H locs hG hS => ?_)
    refine o_aload hx hb dL_law_371 hl rfl ?_
    refine o_iload hx hb dL_law_373 hl rfl ?_
    refine lv_bipush (v := 45) hx hb dL_law_375 (by decide) ?_
    refine g_iast hC hG hS (V_c (i := 8) (by decide) (by decide) (by decide)) (a) rfl (by omega) (by decide) (P_c (by decide) (by decide) (by decide)) dL_law_377 (fun H locs hG hS => ?_)
    have lp : ∀ (q9 y : Nat), y + q9 = 5 → ∀ (H : Heap) (locs : List Loc) (ls : Array Slot), GW D B ad9 (WL cy de ad9 (aS S a) (nUp (nUp n 0) 1) T k th K 10 (iniL (up3 (up3 L 7 a 0 (-1)) 8 a 0 45) a y)) H → va_S (AB B) s.heap H locs → lo ls 29 [some (.ref b), some (.ref (ad9 0 0 0)), some (.int 1), some (.int (nI K)), some (.ref (ad9 20 0 0)), some (.ref (ad9 20 1 0)), some (.ref (ad9 20 2 0)), some (.ref (ad9 20 3 0)), some (.ref (ad9 20 4 0)), some (.ref (ad9 20 5 0)), some (.ref (ad9 20 6 0)), some (.ref (ad9 20 7 0)), some (.ref (ad9 20 8 0)), some (.ref (ad9 20 9 0)), some (.int 0), some (.int (nI a)), some (.int (nI y)), none, none, none, none, none, none, none, none, none, none, none, none] → W p l e room_1 s m args below meth c H locs (C0 + 30 * a + 9 + 3 + 3 + 1 + 1 + 2) (S0 + 200 * a + 56 + 29 + 18 + 6 + 6 + 12) Q (F0 m 381 ls []) := by
      intro q9
      induction q9 with
      | zero =>
        intro y hy5 H locs ls hG hS hl
        obtain rfl : y = 5 := by omega
        refine o_iload hx hb dL_law_381 hl rfl ?_
        refine lv_iconst (v := 5) hx hb dL_law_383 (by decide) ?_
        refine n_icmp_ge (tgt := 412) hx hb 5 5 rfl rfl (by omega) (by omega) dL_law_384 (by decide) (fun _ => ?_) (fun h => absurd h (by omega))
        refine o_iinc1 hx hb dL_law_412 hl rfl (by decide) rfl (fun ls hl => ?_)
        refine lv_goto (tgt := 281) hx hb dL_law_415 (by decide) ?_
        refine W.widen (k := C0 + 30 * (a + 1)) (n := S0 + 200 * (a + 1)) (by omega) (by omega) ?_
        exact ih (a + 1) (by omega) ad9 _ _ _ _ _ _ hI2 hAA2 hG hS (lo_none (i := 16) hl)
      | succ q9 ih9 =>
        intro y hy5 H locs ls hG hS hl
        refine o_iload hx hb dL_law_381 hl rfl ?_
        refine lv_iconst (v := 5) hx hb dL_law_383 (by decide) ?_
        refine n_icmp_ge (tgt := 412) hx hb y 5 rfl rfl (by omega) (by omega) dL_law_384 (by decide) (fun h => absurd h (by omega)) (fun _ => ?_)
        refine o_aload hx hb dL_law_387 hl rfl ?_
        refine o_iload hx hb dL_law_389 hl rfl ?_
        refine g_aald hC hG 7 rfl rfl (V_o (i := 4) (by decide) (by decide) (by decide)) (a) rfl (by omega) (by decide) dL_law_391 ?_
        refine o_iload hx hb dL_law_392 hl rfl ?_
        refine lv_bipush (v := 100) hx hb dL_law_394 (by decide) ?_
        refine g_iast hC hG hS (V_r (i := 4) (a := a) (by decide) (by decide) (by decide) (by omega)) (y) rfl (by omega) (by decide) (P_r (by decide) (by decide) (by decide) (by omega)) dL_law_396 (fun H locs hG hS => ?_)
        refine o_aload hx hb dL_law_397 hl rfl ?_
        refine o_iload hx hb dL_law_399 hl rfl ?_
        refine g_aald hC hG 7 rfl rfl (V_o (i := 5) (by decide) (by decide) (by decide)) (a) rfl (by omega) (by decide) dL_law_401 ?_
        refine o_iload hx hb dL_law_402 hl rfl ?_
        refine lv_iconst (v := (-1)) hx hb dL_law_404 (by decide) ?_
        refine g_iast hC hG hS (V_r (i := 5) (a := a) (by decide) (by decide) (by decide) (by omega)) (y) rfl (by omega) (by decide) (P_r (by decide) (by decide) (by decide) (by omega)) dL_law_405 (fun H locs hG hS => ?_)
        refine o_iinc1 hx hb dL_law_406 hl rfl (by decide) rfl (fun ls hl => ?_)
        refine lv_goto (tgt := 381) hx hb dL_law_409 (by decide) ?_
        exact ih9 (y + 1) (by omega) _ _ _ hG hS hl
    refine lv_iconst (v := 0) hx hb dL_law_378 (by decide) ?_
    refine o_istore hx hb dL_law_379 hl (by decide) rfl (fun ls hl => ?_)
    exact lp 5 0 rfl _ _ ls hG hS hl
set_option maxHeartbeats 4000000 in
set_option maxRecDepth 100000 in
theorem set6 {p : Program} {l : Launch} {e : Env} {s : State} {m : MethodId} {args : Array Value} {below : List Frame} {meth : Method} {c : Code} {Q : State → Prop} {D : va_G} {cy : Nat → ClassId} {sa : Nat → Nat} {de B : Nat} {T : St} {k : Nat → Nat} {th : Int32} {H : Heap} {locs : List Loc} {cells slots b K : Nat} {ls : Array Slot} {ad : Ad} {S : St} {n : Nat → Nat} {L : St} (hfl : l.stackTraces = false) (hC : Cx p m c cL_law 29 s args RL D cy sa de B) (hS : va_S (AB B) s.heap H locs) (hG : GW D B ad (WL cy de ad S n T k th K 10 L) H) (hI : Inv S n) (hAA : AA S n L K 3) (hl : lo ls 29 [some (.ref b), some (.ref (ad 0 0 0)), some (.int 1), some (.int (nI K)), some (.ref (ad 20 0 0)), some (.ref (ad 20 1 0)), some (.ref (ad 20 2 0)), some (.ref (ad 20 3 0)), some (.ref (ad 20 4 0)), some (.ref (ad 20 5 0)), some (.ref (ad 20 6 0)), some (.ref (ad 20 7 0)), some (.ref (ad 20 8 0)), some (.ref (ad 20 9 0)), some (.int 0), none, none, none, none, none, none, none, none, none, none, none, none, none, none]) (hroom : cells + 40 ≤ 847444 ∧ slots + 250 ≤ 6559293) (kk : ∀ (ad : Ad) (S2 : St) (n2 : Nat → Nat) (H1 : Heap) (locs1 : List Loc) (ls1 : Array Slot), Inv S2 n2 → RR S2 n2 L K 0 → GW D B ad (WL cy de ad S2 n2 T k th K 10 L) H1 → va_S (AB B) s.heap H1 locs1 → lo ls1 29 (LW b ad K (S2 23 0 0) (S2 15 5 0) (nI 0) none none none none none none none none none none none none) → W p l e room_1 s m args below meth c H1 locs1 (cells + 40) (slots + 250) Q (F0 m 512 ls1 [])) : W p l e room_1 s m args below meth c H locs cells slots Q (F0 m 418 ls []) := by
  have hx := hC.x
  have hb := hC.b
  have e1 : n 1 = 3 := hAA.1.2.1
  have hcd : cd_classifier n 0 = 0 := cd_claA (a := 0) (by decide) (by omega)
  have hRR := RR_0 hAA hI
  have hI2 := inv_classifier hI hcd
  rw [e1] at hI2
  have q0 : nUp n 1 0 = 3 := hRR.1.1
  have q1 : nUp n 1 1 = 4 := hRR.1.2.1
  obtain ⟨c0, c2, c3, c5, c9⟩ := cls_12 hAA
  refine o_iload_n hx hb dL_law_418 hl rfl ?_
  refine o_aload_n hx hb dL_law_419 hl rfl ?_
  refine lv_iconst (v := 0) hx hb dL_law_420 (by decide) ?_
  refine kv_L_classifier hfl hC hS hG ⟨hI, XL_19⟩ ml_L_88 ⟨(Nat.le_of_ble_eq_true rfl), (Nat.le_of_ble_eq_true rfl)⟩ hl.1 (Nat.le_of_ble_eq_true rfl) dL_law_421 ⟨show cells + 3 ≤ 847444 by omega, show slots + 29 ≤ 6559293 by omega⟩ hcd (fun ad9 H locs hA hG hS => ?_)
  have hG : GW D B ad9 (WL cy de ad9 (clS S 3 0) (nUp n 1) T k th K 10 L) H := by
    show GW D B ad9 (Vw cy de ad9 (clS S 3 0) (nUp n 1) T k th (XL cy (ad9 21) K 10 L)) H
    rw [hA 21 (Or.inr (by decide))]; rw [e1] at hG; exact hG
  have hl : lo ls 29 [some (.ref b), some (.ref (ad9 0 0 0)), some (.int 1), some (.int (nI K)), some (.ref (ad9 20 0 0)), some (.ref (ad9 20 1 0)), some (.ref (ad9 20 2 0)), some (.ref (ad9 20 3 0)), some (.ref (ad9 20 4 0)), some (.ref (ad9 20 5 0)), some (.ref (ad9 20 6 0)), some (.ref (ad9 20 7 0)), some (.ref (ad9 20 8 0)), some (.ref (ad9 20 9 0)), some (.int 0), none, none, none, none, none, none, none, none, none, none, none, none, none, none] := by rw [hA 0 (Or.inl rfl), hA 20 (Or.inr (by decide))]; exact hl
  refine bi_0 (x := 3) (by rw [e1]; rfl) ?_
  refine lv_iconst (v := 3) hx hb dL_law_424 (by decide) ?_
  refine lv_icmp_ne (tgt := 501) hx hb dL_law_425 (by decide) (fun h => absurd (rfl) h) (fun _ => ?_)
  refine o_aload_n hx hb dL_law_428 hl rfl ?_
  refine lv_iconst (v := 0) hx hb dL_law_429 (by decide) ?_
  refine lv_iconst (v := 0) hx hb dL_law_430 (by decide) ?_
  refine lv_iconst (v := 2) hx hb dL_law_431 (by decide) ?_
  refine kx_L_test (t0 := 2) hfl hC hS hG ⟨hI2, XL_19⟩ ml_L_110 ⟨(Nat.le_of_ble_eq_true rfl), (Nat.le_of_ble_eq_true rfl)⟩ hl.1 (Nat.le_of_ble_eq_true rfl) dL_law_432 ⟨show cells + 3 + 4 ≤ 847444 by omega, show slots + 29 + 24 ≤ 6559293 by omega⟩ (by decide) (cd_tst2 (y := 2) (by decide) q0 q1 (fun z => z.1 (c0.trans c2.symm))) (fun H locs hG hS => ?_)
  refine lv_ldc hx hb hC.o (hC.t _ ct_L_20) dL_law_435 ?_
  refine lv_icmp_ne (tgt := 501) hx hb dL_law_437 (by decide) (fun h => absurd (rfl) h) (fun _ => ?_)
  refine o_aload_n hx hb dL_law_440 hl rfl ?_
  refine lv_iconst (v := 0) hx hb dL_law_441 (by decide) ?_
  refine lv_iconst (v := 0) hx hb dL_law_442 (by decide) ?_
  refine lv_iconst (v := 0) hx hb dL_law_443 (by decide) ?_
  refine kx_L_test (t0 := 2) hfl hC hS hG ⟨hI2, XL_19⟩ ml_L_110 ⟨(Nat.le_of_ble_eq_true rfl), (Nat.le_of_ble_eq_true rfl)⟩ hl.1 (Nat.le_of_ble_eq_true rfl) dL_law_444 ⟨show cells + 3 + 4 + 4 ≤ 847444 by omega, show slots + 29 + 24 + 24 ≤ 6559293 by omega⟩ (by decide) (cd_tst2 (y := 0) (by decide) q0 q1 (fun z => z.1 rfl)) (fun H locs hG hS => ?_)
  refine lv_ldc hx hb hC.o (hC.t _ ct_L_20) dL_law_447 ?_
  refine lv_icmp_ne (tgt := 501) hx hb dL_law_449 (by decide) (fun h => absurd (rfl) h) (fun _ => ?_)
  refine o_aload_n hx hb dL_law_452 hl rfl ?_
  refine lv_iconst (v := 0) hx hb dL_law_453 (by decide) ?_
  refine lv_iconst (v := 0) hx hb dL_law_454 (by decide) ?_
  refine lv_iconst (v := 3) hx hb dL_law_455 (by decide) ?_
  refine kx_L_test (t0 := 2) hfl hC hS hG ⟨hI2, XL_19⟩ ml_L_110 ⟨(Nat.le_of_ble_eq_true rfl), (Nat.le_of_ble_eq_true rfl)⟩ hl.1 (Nat.le_of_ble_eq_true rfl) dL_law_456 ⟨show cells + 3 + 4 + 4 + 4 ≤ 847444 by omega, show slots + 29 + 24 + 24 + 24 ≤ 6559293 by omega⟩ (by decide) (cd_tst2 (y := 3) (by decide) q0 q1 (fun z => z.2.2 (c3.trans c5.symm))) (fun H locs hG hS => ?_)
  refine lv_ldc hx hb hC.o (hC.t _ ct_L_20) dL_law_459 ?_
  refine lv_icmp_ne (tgt := 501) hx hb dL_law_461 (by decide) (fun h => absurd (rfl) h) (fun _ => ?_)
  refine o_aload_n hx hb dL_law_464 hl rfl ?_
  refine lv_iconst (v := 0) hx hb dL_law_465 (by decide) ?_
  refine lv_iconst (v := 0) hx hb dL_law_466 (by decide) ?_
  refine lv_iconst (v := 4) hx hb dL_law_467 (by decide) ?_
  refine kx_L_test (t0 := 1) hfl hC hS hG ⟨hI2, XL_19⟩ ml_L_110 ⟨(Nat.le_of_ble_eq_true rfl), (Nat.le_of_ble_eq_true rfl)⟩ hl.1 (Nat.le_of_ble_eq_true rfl) dL_law_468 ⟨show cells + 3 + 4 + 4 + 4 + 4 ≤ 847444 by omega, show slots + 29 + 24 + 24 + 24 + 24 ≤ 6559293 by omega⟩ (by decide) (cd_tst1 q1) (fun H locs hG hS => ?_)
  refine lv_ldc hx hb hC.o (hC.t _ ct_L_17) dL_law_471 ?_
  refine lv_icmp_ne (tgt := 501) hx hb dL_law_473 (by decide) (fun h => absurd (rfl) h) (fun _ => ?_)
  refine o_aload_n hx hb dL_law_476 hl rfl ?_
  refine lv_iconst (v := 0) hx hb dL_law_477 (by decide) ?_
  refine lv_iconst (v := 0) hx hb dL_law_478 (by decide) ?_
  refine kx_L_protest (t0 := 2) hfl hC hS hG ⟨hI2, XL_19⟩ ml_L_113 ⟨(Nat.le_of_ble_eq_true rfl), (Nat.le_of_ble_eq_true rfl)⟩ hl.1 (Nat.le_of_ble_eq_true rfl) dL_law_479 ⟨show cells + 3 + 4 + 4 + 4 + 4 + 3 ≤ 847444 by omega, show slots + 29 + 24 + 24 + 24 + 24 + 18 ≤ 6559293 by omega⟩ (by decide) (cd_pro2 q0 c9) (fun H locs hG hS => ?_)
  refine lv_ldc hx hb hC.o (hC.t _ ct_L_20) dL_law_482 ?_
  refine lv_icmp_ne (tgt := 501) hx hb dL_law_484 (by decide) (fun h => absurd (rfl) h) (fun _ => ?_)
  refine o_aload_n hx hb dL_law_487 hl rfl ?_
  refine lv_iconst (v := 0) hx hb dL_law_488 (by decide) ?_
  refine kx_L_watch (t0 := 2) hfl hC hS hG ⟨hI2, XL_19⟩ ml_L_115 ⟨(Nat.le_of_ble_eq_true rfl), (Nat.le_of_ble_eq_true rfl)⟩ hl.1 (Nat.le_of_ble_eq_true rfl) dL_law_489 ⟨show cells + 3 + 4 + 4 + 4 + 4 + 3 + 2 ≤ 847444 by omega, show slots + 29 + 24 + 24 + 24 + 24 + 18 + 12 ≤ 6559293 by omega⟩ (by decide) (cd_wat2 q0 c9) (fun H locs hG hS => ?_)
  refine lv_ldc hx hb hC.o (hC.t _ ct_L_20) dL_law_492 ?_
  refine lv_icmp_ne (tgt := 501) hx hb dL_law_494 (by decide) (fun h => absurd (rfl) h) (fun _ => ?_)
  refine lv_iconst (v := 1) hx hb dL_law_497 (by decide) ?_
  refine lv_goto (tgt := 502) hx hb dL_law_498 (by decide) ?_
  refine lv_iand hx hb dL_law_502 ?_
  refine bi_0 (x := 1) (by decide) ?_
  refine o_istore_n hx hb dL_law_503 hl (by decide) rfl (fun ls hl => ?_)
  refine lv_sipush (v := 1000) hx hb dL_law_504 (by decide) ?_
  refine o_istore hx hb dL_law_507 hl (by decide) rfl (fun ls hl => ?_)
  refine lv_iconst (v := 0) hx hb dL_law_509 (by decide) ?_
  refine o_istore hx hb dL_law_510 hl (by decide) rfl (fun ls hl => ?_)
  refine W.widen (k := cells + 40) (n := slots + 250) (by omega) (by omega) ?_
  exact kk ad9 (clS S 3 0) (nUp n 1) _ _ _ hI2 hRR hG hS (by rw [clS_x (c := 23) (by decide) (by decide), clS_x (c := 15) (by decide) (by decide), hAA.2.2.2.2.2.2, hAA.2.2.2.2.2.1 5 (by decide)]; exact hl)
