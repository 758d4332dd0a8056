/-! WHAT IS LOOKED AT AFTER EACH ACT: pc 1286 to 1506. -/
theorem sumLk_congr {f g : Nat → Int32} (h : ∀ y, y < 5 → f y = g y) : sumLk f 5 = sumLk g 5 := by
  have hs : ∀ c, c ≤ 5 → sumLk f c = sumLk g c := by
    intro c
    induction c with
    | zero => intro _; rfl
    | succ c ih =>
      intro hc
      show sumLk f c + (100 - f c) = sumLk g c + (100 - g c)
      rw [ih (by omega), h c (by omega)]
  exact hs 5 (Nat.le_refl 5)
section LM
variable {p : Program} {l : Launch} {e : Env} {R : Room} {s : State} {m : MethodId} {args : Array Value} {below : List Frame} {meth : Method} {c : Code} {H : Heap} {locs : List Loc} {cells slots : Nat} {Q : State → Prop} {cc : ByteArray} {pc nL : Nat} {ls : Array Slot} {rest : List Value} {own : String} {D : va_G} {cy : Nat → ClassId} {sa : Nat → Nat} {de B : Nat} {ad : Ad} {S : St} {n : Nat → Nat} {T : St} {k : Nat → Nat} {th : Int32} {X : Rl} {x : Int32}
theorem bd_0 {x y : UInt64} (h : x = y) (k : W p l e R s m args below meth c H locs cells slots Q (F0 m pc ls (.double x :: rest))) : W p l e R s m args below meth c H locs cells slots Q (F0 m pc ls (.double y :: rest)) := h ▸ k
theorem kd_meanLack (hfl : l.stackTraces = false) (hC : Cx p m c cc nL s args own D cy sa de B) (hS : va_S (AB B) s.heap H locs) (hG : GW D B ad (Vw cy de ad S n T k th X) H) (h0 : Inv S n) {idx : Nat} (wl : Cond.methodLink own idx yX6_meanLack ∈ G0) (hR : 7 + 1 ≤ R.frames ∧ 8 + (2 + 11) + 103 ≤ R.locals) (hsz : ls.size = nL) (hst : (rest.map fun v => v.category).sum ≤ 8) (hdg : decode cc pc = .ok (.invokevirtual idx, 3)) (hcs : cells + 1 ≤ R.cells ∧ slots + 6 ≤ R.slots) (hcd : cd_ath n x = 0)
    (k0 : ∀ (H1 : Heap) (locs1 : List Loc), GW D B ad (Vw cy de ad S n T k th X) H1 → va_S (AB B) s.heap H1 locs1 → W p l e R s m args below meth c H1 locs1 (cells + 1) (slots + 6) Q (F0 m (pc + 3) ls (.double (vl_mean S (ci x)) :: rest))) : W p l e R s m args below meth c H locs cells slots Q (F0 m pc ls (.int x :: .ref (ad 0 0 0) :: rest)) := by
  refine vx_calld (xV hC hS hG h0 (As := [.int x]) (c_X6_meanLack l hfl) ⟨rfl, rfl⟩ wl im_X6_meanLack sl_X6_X6_meanLack in_X6 cd_X6_meanLack (n := 1) (by decide +kernel) hR (recv hC hG (q := (RX6, TX6, 6)) rfl V_games) rfl hsz hst rfl hdg hcs) hS (fun _ _ h => h) (fun _ h => h) (fun _ _ h => h) (fun E ce q9 u t H1 locs1 ht hv hp hB hz hq hS1 hce hcv hcl => ?_) (fun r u t H1 locs1 ht _ hr1 hB _ _ hS1 => ?_)
  · (try dsimp only at hB)
    exact absurd (hB.1.2.symm.trans hcd) (by decide)
  · subst hr1
    have hB9 := hB; try dsimp only at hB9
    rw [ht] at hB9
    obtain ⟨q0, rfl, hG1⟩ := hB9
    exact k0 _ _ hG1 hS1
end LM
set_option maxHeartbeats 4000000 in
set_option maxRecDepth 100000 in
theorem checks {p : Program} {l : Launch} {e : Env} {s : State} {m : MethodId} {args : Array Value} {below : List Frame} {meth : Method} {c : Code} {H : Heap} {locs : List Loc} {cells slots : Nat} {Q : State → Prop} {ls : Array Slot} {D : va_G} {cy : Nat → ClassId} {sa : Nat → Nat} {de B : Nat} {ad : Ad} {S : St} {n : Nat → Nat} {T : St} {k : Nat → Nat} {th : Int32} {L : St} {b K yr nn : Nat} {a : Nat} (hfl : l.stackTraces = false) (hC : Cx p m c cL_law 29 s args RL D cy sa de B) (hS : va_S (AB B) s.heap H locs) (hG : GW D B ad (WL cy de ad S n T k th K 10 L) H) (hI : Inv S n) (hR : RR S n L K yr) (ha : a < 3) (hl : lo ls 29 (LW b ad K (S 23 0 0) (S 15 5 0) (nI nn) (some (.int (nI a))) none none none none none none none none none none none)) (hroom : cells + 20 ≤ 847444 ∧ slots + 160 ≤ 6559293) (kk : ∀ (H1 : Heap) (locs1 : List Loc) (ls1 : Array Slot), GW D B ad (WL cy de ad S n T k th K 10 L) H1 → va_S (AB B) s.heap H1 locs1 → lo ls1 29 (LW b ad K (S 23 0 0) (S 15 5 0) (nI nn) (some (.int (nI a))) none none none none none none none none none none none) → W p l e room_1 s m args below meth c H1 locs1 (cells + 20) (slots + 160) Q (F0 m 1506 ls1 [])) : W p l e room_1 s m args below meth c H locs cells slots Q (F0 m 1286 ls []) := by
  have hx := hC.x
  have hb := hC.b
  have e0 : n 0 = 3 := hR.1.1
  have e1 : n 1 = 4 := hR.1.2.1
  have e2 : n 2 = K := hR.1.2.2.1
  have hK8 : n 2 ≤ 8 := hI.1.1.2.2.1
  have za : ci (nI a) = a := nI_clamp (by omega)
  have hK : K ≤ 8 := by omega
  have hkey : ∀ q, q < K → ∃ z, z < 5 ∧ L 0 q 0 = nI z := fun q hq => by
    rw [(hR.2.2.2.1 q hq).1]; exact KY_of hI.1.1 q (by omega)
  have m6 : ∀ y, y < 5 → 0 ≤ S 6 a y ∧ S 6 a y ≤ 100 := fun y hy => (hI.2.2.2.2.2.2.2.2.2.2.2.2.2.2.1 a y (by omega) hy).1
  have f6 : ∀ y, y < 5 → L 4 a y = fMea S a 0 y := fun y hy => (hR.2.1 a y ha hy).1
  have fin : ∀ (H : Heap) (locs : List Loc) (ls : Array Slot), GW D B ad (WL cy de ad S n T k th K 10 L) H → va_S (AB B) s.heap H locs → lo ls 29 (LW b ad K (S 23 0 0) (S 15 5 0) (nI nn) (some (.int (nI a))) none none none (some (.int (fK (condL L (fun y => L 4 a y)) 0 K))) (some (.int (sumLk (fun y => L 4 a y) 5))) none none none none none none) → W p l e room_1 s m args below meth c H locs (cells + 12) (slots + 72) Q (F0 m 1470 ls []) := by
    intro H locs ls hG hS hl
    refine o_iload_n hx hb dL_law_1470 hl rfl ?_
    refine o_aload_n hx hb dL_law_1471 hl rfl ?_
    refine o_iload hx hb dL_law_1472 hl rfl ?_
    refine kv_L_belongs hfl hC hS hG ⟨hI, XL_19⟩ ml_L_93 ⟨(Nat.le_of_ble_eq_true rfl), (Nat.le_of_ble_eq_true rfl)⟩ hl.1 (Nat.le_of_ble_eq_true rfl) dL_law_1474 ⟨show cells + 12 + 1 ≤ 847444 by omega, show slots + 72 + 6 ≤ 6559293 by omega⟩ (cd_ath0 (by omega)) (fun H locs hG hS => ?_)
    refine bi_0 (x := fK (condL L (fun y => L 4 a y)) 0 K) (by rw [za]; exact by_eq hR hI rfl f6) ?_
    refine o_iload hx hb dL_law_1477 hl rfl ?_
    refine lv_icmp_ne (tgt := 1503) hx hb dL_law_1479 (by decide) (fun h => absurd (rfl) h) (fun _ => ?_)
    refine o_aload_n hx hb dL_law_1482 hl rfl ?_
    refine o_iload hx hb dL_law_1483 hl rfl ?_
    refine kd_meanLack hfl hC hS hG hI ml_L_129 ⟨(Nat.le_of_ble_eq_true rfl), (Nat.le_of_ble_eq_true rfl)⟩ hl.1 (Nat.le_of_ble_eq_true rfl) dL_law_1485 ⟨show cells + 12 + 1 + 1 ≤ 847444 by omega, show slots + 72 + 6 + 6 ≤ 6559293 by omega⟩ (cd_ath0 (by omega)) (fun H locs hG hS => ?_)
    refine bd_0 (x := FP.ddiv (FP.i2d (sumLk (fun y => L 4 a y) 5)) 4617315517961601024) (by rw [za]; unfold vl_mean; rw [sumLk_congr f6]) ?_
    refine o_iload hx hb dL_law_1488 hl rfl ?_
    refine lv_i2d hx hb dL_law_1490 ?_
    refine lv_ldc2d hx hb hC.o (hC.t _ ct_L_133) dL_law_1491 ?_
    refine lv_ddiv hx hb dL_law_1494 (mean_ok (fun y hy => by rw [f6 y hy]; exact m6 y hy)) ?_
    refine lv_dcmp hx hb dL_law_1495 ?_
    refine bi_0 (x := 0) (mean_cmp (fun y hy => by rw [f6 y hy]; exact m6 y hy)).symm ?_
    refine lv_if_ne (tgt := 1503) hx hb dL_law_1496 (by decide) (fun h => absurd rfl h) (fun _ => ?_)
    refine lv_iconst (v := 1) hx hb dL_law_1499 (by decide) ?_
    refine lv_goto (tgt := 1504) hx hb dL_law_1500 (by decide) ?_
    refine lv_iand hx hb dL_law_1504 ?_
    refine bi_0 (x := 1) (by decide) ?_
    refine o_istore_n hx hb dL_law_1505 hl (by decide) rfl (fun ls hl => ?_)
    refine W.widen (k := cells + 20) (n := slots + 160) (by omega) (by omega) ?_
    exact kk _ _ _ hG hS (lo_none (i := 21) (lo_none (i := 22) hl))
  have mid : ∀ (H : Heap) (locs : List Loc) (ls : Array Slot), GW D B ad (WL cy de ad S n T k th K 10 L) H → va_S (AB B) s.heap H locs → lo ls 29 (LW b ad K (S 23 0 0) (S 15 5 0) (nI nn) (some (.int (nI a))) none none none none none none none none none none none) → W p l e room_1 s m args below meth c H locs (cells + 12) (slots + 72) Q (F0 m 1366 ls []) := by
    intro H locs ls hG hS hl
    have loop2 : ∀ y, y ≤ K → ∀ ls : Array Slot, lo ls 29 (LW b ad K (S 23 0 0) (S 15 5 0) (nI nn) (some (.int (nI a))) none none none (some (.int (fK (condL L (fun y => L 4 a y)) y (K - y)))) (some (.int (sumLk (fun y => L 4 a y) 5))) (some (.int (pm y))) none none none none none) → W p l e room_1 s m args below meth c H locs (cells + 12) (slots + 72) Q (F0 m 1408 ls []) := by
      intro y
      induction y with
      | zero =>
        intro _ ls hl
        refine o_iload hx hb dL_law_1408 hl rfl ?_
        refine lv_if_lt (tgt := 1470) hx hb dL_law_1410 (by decide) (fun _ => ?_) (fun h => absurd (by decide) h)
        exact fin _ _ ls hG hS (lo_none (i := 23) hl)
      | succ y ih =>
        intro hy ls hl
        have hl : lo ls 29 (LW b ad K (S 23 0 0) (S 15 5 0) (nI nn) (some (.int (nI a))) none none none (some (.int (fK (condL L (fun y => L 4 a y)) (y + 1) (K - (y + 1))))) (some (.int (sumLk (fun y => L 4 a y) 5))) (some (.int (nI y))) none none none none none) := hl
        refine o_iload hx hb dL_law_1408 hl rfl ?_
        refine lv_if_lt (tgt := 1470) hx hb dL_law_1410 (by decide) (fun h => absurd h (nI_pos (by omega))) (fun _ => ?_)
        obtain ⟨z, hz, ez⟩ := hkey y (by omega)
        have ez2 : ci (L 0 y 0) = z := by rw [ez]; exact nI_clamp (by omega)
        have tail3 : ∀ (v : Int32) (ls : Array Slot), v = fK (condL L (fun y => L 4 a y)) y (K - y) → lo ls 29 (LW b ad K (S 23 0 0) (S 15 5 0) (nI nn) (some (.int (nI a))) none none none none (some (.int (sumLk (fun y => L 4 a y) 5))) (some (.int (nI y))) none none none none none) → W p l e room_1 s m args below meth c H locs (cells + 12) (slots + 72) Q (F0 m 1462 ls [.int v]) := by
          intro v ls hv hl
          subst hv
          refine o_istore hx hb dL_law_1462 hl (by decide) rfl (fun ls hl => ?_)
          refine o_iinc (v := pm y) hx hb dL_law_1464 hl rfl (pm_step y) (by decide) rfl (fun ls hl => ?_)
          refine lv_goto (tgt := 1408) hx hb dL_law_1467 (by decide) ?_
          exact ih (by omega) ls hl
        refine lv_bipush (v := 100) hx hb dL_law_1413 (by decide) ?_
        refine o_aload hx hb dL_law_1415 hl rfl ?_
        refine o_iload hx hb dL_law_1417 hl rfl ?_
        refine g_aald hC hG 7 rfl rfl (V_o (i := 4) (by decide) (by decide) (by decide)) (a) rfl (by omega) (by decide) dL_law_1419 ?_
        refine o_aload hx hb dL_law_1420 hl rfl ?_
        refine o_iload hx hb dL_law_1422 hl rfl ?_
        refine g_iald hC hG (V_a (i := 0) (by decide) (by decide)) (y) rfl (by omega) (by omega) dL_law_1424 ?_
        refine bi_0 (x := nI z) ez.symm ?_
        refine g_iald hC hG (V_r (i := 4) (a := a) (by decide) (by decide) (by decide) (by omega)) (z) rfl (by omega) (by decide) dL_law_1425 ?_
        refine lv_isub hx hb dL_law_1426 ?_
        refine o_aload hx hb dL_law_1427 hl rfl ?_
        refine o_iload hx hb dL_law_1429 hl rfl ?_
        refine g_iald hC hG (V_a (i := 1) (by decide) (by decide)) (y) rfl (by omega) (by omega) dL_law_1431 ?_
        refine lv_icmp_lt (tgt := 1460) hx hb dL_law_1432 (by decide) (fun h1 => ?_) (fun h1 => ?_)
        · skip
          refine o_iload hx hb dL_law_1460 hl rfl ?_
          exact tail3 _ _ ((fK_no (P := condL L (fun y => L 4 a y)) (y := y) (m := K) (by omega) (fun hc => by have h9 := hc.1; rw [ez2] at h9; exact absurd h1 (Int32.not_lt.mpr h9))).symm) (lo_none (i := 21) hl)
        · skip
          refine o_iload hx hb dL_law_1435 hl rfl ?_
          refine o_aload hx hb dL_law_1437 hl rfl ?_
          refine o_iload hx hb dL_law_1439 hl rfl ?_
          refine g_iald hC hG (V_a (i := 2) (by decide) (by decide)) (y) rfl (by omega) (by omega) dL_law_1441 ?_
          refine lv_icmp_lt (tgt := 1460) hx hb dL_law_1442 (by decide) (fun h2 => ?_) (fun h2 => ?_)
          · skip
            refine o_iload hx hb dL_law_1460 hl rfl ?_
            exact tail3 _ _ ((fK_no (P := condL L (fun y => L 4 a y)) (y := y) (m := K) (by omega) (fun hc => absurd h2 (Int32.not_lt.mpr hc.2.1))).symm) (lo_none (i := 21) hl)
          · skip
            refine o_iload hx hb dL_law_1445 hl rfl ?_
            refine o_aload hx hb dL_law_1447 hl rfl ?_
            refine o_iload hx hb dL_law_1449 hl rfl ?_
            refine g_iald hC hG (V_a (i := 3) (by decide) (by decide)) (y) rfl (by omega) (by omega) dL_law_1451 ?_
            refine lv_icmp_gt (tgt := 1460) hx hb dL_law_1452 (by decide) (fun h3 => ?_) (fun h3 => ?_)
            · skip
              refine o_iload hx hb dL_law_1460 hl rfl ?_
              exact tail3 _ _ ((fK_no (P := condL L (fun y => L 4 a y)) (y := y) (m := K) (by omega) (fun hc => absurd h3 (Int32.not_lt.mpr hc.2.2))).symm) (lo_none (i := 21) hl)
            · skip
              refine o_iload hx hb dL_law_1455 hl rfl ?_
              refine lv_goto (tgt := 1462) hx hb dL_law_1457 (by decide) ?_
              have hc : condL L (fun y => L 4 a y) y := ⟨by rw [ez2]; exact Int32.not_lt.mp h1, Int32.not_lt.mp h2, Int32.not_lt.mp h3⟩
              exact tail3 _ _ ((fK_yes (P := condL L (fun y => L 4 a y)) (y := y) (m := K) (by omega) hc).symm) (lo_none (i := 21) hl)
    have loop3 : ∀ (q9 x : Nat), x + q9 = 5 → ∀ ls : Array Slot, lo ls 29 (LW b ad K (S 23 0 0) (S 15 5 0) (nI nn) (some (.int (nI a))) none none none (some (.int (-1))) (some (.int (sumLk (fun y => L 4 a y) x))) (some (.int (nI x))) none none none none none) → W p l e room_1 s m args below meth c H locs (cells + 12) (slots + 72) Q (F0 m 1375 ls []) := by
      intro q9
      induction q9 with
      | zero =>
        intro x hx5 ls hl
        obtain rfl : x = 5 := by omega
        refine o_iload hx hb dL_law_1375 hl rfl ?_
        refine lv_iconst (v := 5) hx hb dL_law_1377 (by decide) ?_
        refine n_icmp_ge (tgt := 1403) hx hb 5 5 rfl rfl (by omega) (by omega) dL_law_1378 (by decide) (fun _ => ?_) (fun h => absurd h (by omega))
        refine o_iload_n hx hb dL_law_1403 hl rfl ?_
        refine lv_iconst (v := 1) hx hb dL_law_1404 (by decide) ?_
        refine lv_isub hx hb dL_law_1405 ?_
        refine bi_0 (x := pm K) (pm_sub K).symm ?_
        refine o_istore hx hb dL_law_1406 hl (by decide) rfl (fun ls hl => ?_)
        exact loop2 K (Nat.le_refl K) ls (by rw [Nat.sub_self]; exact hl)
      | succ q9 ih3 =>
        intro x hx5 ls hl
        refine o_iload hx hb dL_law_1375 hl rfl ?_
        refine lv_iconst (v := 5) hx hb dL_law_1377 (by decide) ?_
        refine n_icmp_ge (tgt := 1403) hx hb x 5 rfl rfl (by omega) (by omega) dL_law_1378 (by decide) (fun h => absurd h (by omega)) (fun _ => ?_)
        refine o_iload hx hb dL_law_1381 hl rfl ?_
        refine lv_bipush (v := 100) hx hb dL_law_1383 (by decide) ?_
        refine o_aload hx hb dL_law_1385 hl rfl ?_
        refine o_iload hx hb dL_law_1387 hl rfl ?_
        refine g_aald hC hG 7 rfl rfl (V_o (i := 4) (by decide) (by decide) (by decide)) (a) rfl (by omega) (by decide) dL_law_1389 ?_
        refine o_iload hx hb dL_law_1390 hl rfl ?_
        refine g_iald hC hG (V_r (i := 4) (a := a) (by decide) (by decide) (by decide) (by omega)) (x) rfl (by omega) (by decide) dL_law_1392 ?_
        refine lv_isub hx hb dL_law_1393 ?_
        refine lv_iadd hx hb dL_law_1394 ?_
        refine o_istore hx hb dL_law_1395 hl (by decide) rfl (fun ls hl => ?_)
        refine o_iinc1 hx hb dL_law_1397 hl rfl (by decide) rfl (fun ls hl => ?_)
        refine lv_goto (tgt := 1375) hx hb dL_law_1400 (by decide) ?_
        exact ih3 (x + 1) (by omega) ls hl
    refine lv_iconst (v := (-1)) hx hb dL_law_1366 (by decide) ?_
    refine o_istore hx hb dL_law_1367 hl (by decide) rfl (fun ls hl => ?_)
    refine lv_iconst (v := 0) hx hb dL_law_1369 (by decide) ?_
    refine o_istore hx hb dL_law_1370 hl (by decide) rfl (fun ls hl => ?_)
    refine lv_iconst (v := 0) hx hb dL_law_1372 (by decide) ?_
    refine o_istore hx hb dL_law_1373 hl (by decide) rfl (fun ls hl => ?_)
    exact loop3 5 0 rfl ls hl
  have lp : ∀ (r j : Nat), j + r = 3 → ∀ (H : Heap) (locs : List Loc) (ls : Array Slot), GW D B ad (WL cy de ad S n T k th K 10 L) H → va_S (AB B) s.heap H locs → lo ls 29 (LW b ad K (S 23 0 0) (S 15 5 0) (nI nn) (some (.int (nI a))) none none none (some (.int (nI j))) none none none none none none none) → W p l e room_1 s m args below meth c H locs (cells + 4 * j) (slots + 24 * j) Q (F0 m 1289 ls []) := by
    intro r
    induction r with
    | zero =>
      intro j hj H locs ls hG hS hl
      obtain rfl : j = 3 := by omega
      refine o_iload hx hb dL_law_1289 hl rfl ?_
      refine lv_iconst (v := 3) hx hb dL_law_1291 (by decide) ?_
      refine n_icmp_ge (tgt := 1366) hx hb 3 3 rfl rfl (by omega) (by omega) dL_law_1292 (by decide) (fun _ => ?_) (fun h => absurd h (by omega))
      exact mid _ _ ls hG hS (lo_none (i := 21) hl)
    | succ r ih =>
      intro j hj H locs ls hG hS hl
      have zj : ci (nI j) = j := nI_clamp (by omega)
      obtain ⟨r7, r8, r9, r10⟩ := hR.2.2.1 j (by omega)
      refine o_iload hx hb dL_law_1289 hl rfl ?_
      refine lv_iconst (v := 3) hx hb dL_law_1291 (by decide) ?_
      refine n_icmp_ge (tgt := 1366) hx hb j 3 rfl rfl (by omega) (by omega) dL_law_1292 (by decide) (fun h => absurd h (by omega)) (fun _ => ?_)
      refine o_iload_n hx hb dL_law_1295 hl rfl ?_
      refine o_aload_n hx hb dL_law_1296 hl rfl ?_
      refine o_iload hx hb dL_law_1297 hl rfl ?_
      refine kv_L_status hfl hC hS hG ⟨hI, XL_19⟩ ml_L_104 ⟨(Nat.le_of_ble_eq_true rfl), (Nat.le_of_ble_eq_true rfl)⟩ hl.1 (Nat.le_of_ble_eq_true rfl) dL_law_1299 ⟨show cells + 4 * j + 1 ≤ 847444 by omega, show slots + 24 * j + 6 ≤ 6559293 by omega⟩ (cd_ath0 (by omega)) (fun H locs hG hS => ?_)
      refine bi_0 (x := S 9 j 0) (by rw [zj]) ?_
      refine o_aload hx hb dL_law_1302 hl rfl ?_
      refine o_iload hx hb dL_law_1304 hl rfl ?_
      refine g_iald hC hG (V_c (i := 8) (by decide) (by decide) (by decide)) (j) rfl (by omega) (by decide) dL_law_1306 ?_
      refine lv_icmp_ne (tgt := 1357) hx hb dL_law_1307 (by decide) (fun h => absurd (r8.symm) h) (fun _ => ?_)
      refine o_aload_n hx hb dL_law_1310 hl rfl ?_
      refine o_iload hx hb dL_law_1311 hl rfl ?_
      refine kv_L_classOf hfl hC hS hG ⟨hI, XL_19⟩ ml_L_106 ⟨(Nat.le_of_ble_eq_true rfl), (Nat.le_of_ble_eq_true rfl)⟩ hl.1 (Nat.le_of_ble_eq_true rfl) dL_law_1313 ⟨show cells + 4 * j + 1 + 1 ≤ 847444 by omega, show slots + 24 * j + 6 + 6 ≤ 6559293 by omega⟩ (cd_ath0 (by omega)) (fun H locs hG hS => ?_)
      refine bi_0 (x := S 10 j 0) (by rw [zj]) ?_
      refine o_aload hx hb dL_law_1316 hl rfl ?_
      refine o_iload hx hb dL_law_1318 hl rfl ?_
      refine g_iald hC hG (V_c (i := 7) (by decide) (by decide) (by decide)) (j) rfl (by omega) (by decide) dL_law_1320 ?_
      refine lv_icmp_ne (tgt := 1357) hx hb dL_law_1321 (by decide) (fun h => absurd (r7.symm) h) (fun _ => ?_)
      refine o_aload_n hx hb dL_law_1324 hl rfl ?_
      refine o_iload hx hb dL_law_1325 hl rfl ?_
      by_cases hb9 : S 9 j 0 = 120
      · skip
        refine kv_L_until hfl hC hS hG ⟨hI, XL_19⟩ ml_L_108 ⟨(Nat.le_of_ble_eq_true rfl), (Nat.le_of_ble_eq_true rfl)⟩ hl.1 (Nat.le_of_ble_eq_true rfl) dL_law_1327 ⟨show cells + 4 * j + 1 + 1 + 2 ≤ 847444 by omega, show slots + 24 * j + 6 + 6 + 12 ≤ 6559293 by omega⟩ (cd_until0 (by omega) (by omega) hb9) (fun H locs hG hS => ?_)
        refine bi_0 (x := S 2 j 0) (by rw [zj]) ?_
        refine o_aload hx hb dL_law_1330 hl rfl ?_
        refine o_iload hx hb dL_law_1332 hl rfl ?_
        refine g_iald hC hG (V_c (i := 8) (by decide) (by decide) (by decide)) (j) rfl (by omega) (by decide) dL_law_1334 ?_
        refine lv_bipush (v := 120) hx hb dL_law_1335 (by decide) ?_
        refine lv_icmp_ne (tgt := 1348) hx hb dL_law_1337 (by decide) (fun h => absurd (r8.trans hb9) h) (fun _ => ?_)
        refine o_aload hx hb dL_law_1340 hl rfl ?_
        refine o_iload hx hb dL_law_1342 hl rfl ?_
        refine g_iald hC hG (V_c (i := 9) (by decide) (by decide) (by decide)) (j) rfl (by omega) (by decide) dL_law_1344 ?_
        refine lv_goto (tgt := 1350) hx hb dL_law_1345 (by decide) ?_
        refine lv_icmp_ne (tgt := 1357) hx hb dL_law_1350 (by decide) (fun h => absurd ((r9 hb9).symm) h) (fun _ => ?_)
        refine lv_iconst (v := 1) hx hb dL_law_1353 (by decide) ?_
        refine lv_goto (tgt := 1358) hx hb dL_law_1354 (by decide) ?_
        refine lv_iand hx hb dL_law_1358 ?_
        refine bi_0 (x := 1) (by decide) ?_
        refine o_istore_n hx hb dL_law_1359 hl (by decide) rfl (fun ls hl => ?_)
        refine o_iinc1 hx hb dL_law_1360 hl rfl (by decide) rfl (fun ls hl => ?_)
        refine lv_goto (tgt := 1289) hx hb dL_law_1363 (by decide) ?_
        refine W.widen (k := cells + 4 * (j + 1)) (n := slots + 24 * (j + 1)) (by omega) (by omega) ?_
        exact ih (j + 1) (by omega) _ _ _ hG hS hl
      · skip
        refine kx_L_until (t0 := 2) hfl hC hS hG ⟨hI, XL_19⟩ ml_L_108 ⟨(Nat.le_of_ble_eq_true rfl), (Nat.le_of_ble_eq_true rfl)⟩ hl.1 (Nat.le_of_ble_eq_true rfl) dL_law_1327 ⟨show cells + 4 * j + 1 + 1 + 2 ≤ 847444 by omega, show slots + 24 * j + 6 + 6 + 12 ≤ 6559293 by omega⟩ (by decide) (cd_until2 (by omega) (by omega) hb9 (by rcases r10 with v | v | v | v | v <;> rw [v] <;> decide)) (fun H locs hG hS => ?_)
        refine o_aload hx hb dL_law_1330 hl rfl ?_
        refine o_iload hx hb dL_law_1332 hl rfl ?_
        refine g_iald hC hG (V_c (i := 8) (by decide) (by decide) (by decide)) (j) rfl (by omega) (by decide) dL_law_1334 ?_
        refine lv_bipush (v := 120) hx hb dL_law_1335 (by decide) ?_
        refine lv_icmp_ne (tgt := 1348) hx hb dL_law_1337 (by decide) (fun _ => ?_) (fun h => absurd (r8.symm.trans h) hb9)
        refine lv_ldc hx hb hC.o (hC.t _ ct_L_20) dL_law_1348 ?_
        refine lv_icmp_ne (tgt := 1357) hx hb dL_law_1350 (by decide) (fun h => absurd (rfl) h) (fun _ => ?_)
        refine lv_iconst (v := 1) hx hb dL_law_1353 (by decide) ?_
        refine lv_goto (tgt := 1358) hx hb dL_law_1354 (by decide) ?_
        refine lv_iand hx hb dL_law_1358 ?_
        refine bi_0 (x := 1) (by decide) ?_
        refine o_istore_n hx hb dL_law_1359 hl (by decide) rfl (fun ls hl => ?_)
        refine o_iinc1 hx hb dL_law_1360 hl rfl (by decide) rfl (fun ls hl => ?_)
        refine lv_goto (tgt := 1289) hx hb dL_law_1363 (by decide) ?_
        refine W.widen (k := cells + 4 * (j + 1)) (n := slots + 24 * (j + 1)) (by omega) (by omega) ?_
        exact ih (j + 1) (by omega) _ _ _ hG hS hl
  refine lv_iconst (v := 0) hx hb dL_law_1286 (by decide) ?_
  refine o_istore hx hb dL_law_1287 hl (by decide) rfl (fun ls hl => ?_)
  exact lp 3 0 rfl _ _ ls hG hS hl
