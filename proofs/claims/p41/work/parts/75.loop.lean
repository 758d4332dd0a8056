/-! THE LOOP OF TWENTY-FOUR STEPS, and the law's end. -/
set_option maxHeartbeats 4000000 in
set_option maxRecDepth 100000 in
theorem law_end {p : Program} {l : Launch} {e : Env} {s : State} {m : MethodId} {args : Array Value} {below : List Frame} {meth : Method} {c : Code} {H : Heap} {locs : List Loc} {cells slots : Nat} {Q : State → Prop} {ls : Array Slot} {D : va_G} {cy : Nat → ClassId} {sa : Nat → Nat} {de B : Nat} {ad : Ad} {S : St} {n : Nat → Nat} {T : St} {k : Nat → Nat} {th : Int32} {L : St} {b K yr nn : Nat} (hfl : l.stackTraces = false) (hC : Cx p m c cL_law 29 s args RL D cy sa de B) (hS : va_S (AB B) s.heap H locs) (hG : GW D B ad (WL cy de ad S n T k th K 10 L) H) (hI : Inv S n) (hR : RR S n L K yr) (hl : lo ls 29 (LW b ad K (S 23 0 0) (S 15 5 0) (nI nn) none none none none none none none none none none none none)) (hroom : cells + 10 ≤ 847444 ∧ slots + 60 ≤ 6559293) (kend : ∀ (H1 : Heap) (locs1 : List Loc) (ls1 : Array Slot), va_S (AB B) s.heap H1 locs1 → W p l e room_1 s m args below meth c H1 locs1 (cells + 10) (slots + 60) Q (F0 m 1550 ls1 [.int 1])) : W p l e room_1 s m args below meth c H locs cells slots Q (F0 m 1512 ls []) := by
  have hx := hC.x
  have hb := hC.b
  refine o_iload_n hx hb dL_law_1512 hl rfl ?_
  refine lv_if_eq (tgt := 1549) hx hb dL_law_1513 (by decide) (fun h => absurd h (by decide)) (fun _ => ?_)
  refine o_aload_n hx hb dL_law_1516 hl rfl ?_
  refine lv_iconst (v := 0) hx hb dL_law_1517 (by decide) ?_
  refine kv_L_money hfl hC hS hG ⟨hI, XL_19⟩ ml_L_127 ⟨(Nat.le_of_ble_eq_true rfl), (Nat.le_of_ble_eq_true rfl)⟩ hl.1 (Nat.le_of_ble_eq_true rfl) dL_law_1518 ⟨show cells + 1 ≤ 847444 by omega, show slots + 6 ≤ 6559293 by omega⟩ cd_money0 (fun H locs hG hS => ?_)
  refine bi_0 (x := 1000) hR.2.2.2.2.2.1.symm ?_
  refine lv_sipush (v := 1000) hx hb dL_law_1521 (by decide) ?_
  refine lv_icmp_ne (tgt := 1549) hx hb dL_law_1524 (by decide) (fun h => absurd (rfl) h) (fun _ => ?_)
  refine o_aload_n hx hb dL_law_1527 hl rfl ?_
  refine lv_bipush (v := 6) hx hb dL_law_1528 (by decide) ?_
  refine kx_L_money (t0 := 1) hfl hC hS hG ⟨hI, XL_19⟩ ml_L_127 ⟨(Nat.le_of_ble_eq_true rfl), (Nat.le_of_ble_eq_true rfl)⟩ hl.1 (Nat.le_of_ble_eq_true rfl) dL_law_1530 ⟨show cells + 1 + 1 ≤ 847444 by omega, show slots + 6 + 6 ≤ 6559293 by omega⟩ (by decide) cd_money6 (fun H locs hG hS => ?_)
  refine lv_ldc hx hb hC.o (hC.t _ ct_L_17) dL_law_1533 ?_
  refine lv_icmp_ne (tgt := 1549) hx hb dL_law_1535 (by decide) (fun h => absurd (rfl) h) (fun _ => ?_)
  refine o_aload_n hx hb dL_law_1538 hl rfl ?_
  refine k_X6_isSound hC hS hG hI.1 ml_L_135 ⟨(Nat.le_of_ble_eq_true rfl), (Nat.le_of_ble_eq_true rfl)⟩ hl.1 (Nat.le_of_ble_eq_true rfl) dL_law_1539 ⟨show cells + 1 + 1 + 0 ≤ 847444 by omega, show slots + 6 + 6 + 0 ≤ 6559293 by omega⟩ (fun _ => ?_) (fun h => absurd (inv_sound hI) h)
  refine lv_if_eq (tgt := 1549) hx hb dL_law_1542 (by decide) (fun h => absurd h (by decide)) (fun _ => ?_)
  refine lv_iconst (v := 1) hx hb dL_law_1545 (by decide) ?_
  refine lv_goto (tgt := 1550) hx hb dL_law_1546 (by decide) ?_
  refine W.widen (k := cells + 10) (n := slots + 60) (by omega) (by omega) ?_
  exact kend _ _ _ hS
set_option maxHeartbeats 4000000 in
set_option maxRecDepth 100000 in
theorem law_loop {p : Program} {l : Launch} {e : Env} {s : State} {m : MethodId} {args : Array Value} {below : List Frame} {meth : Method} {c : Code} {Q : State → Prop} {D : va_G} {cy : Nat → ClassId} {sa : Nat → Nat} {de B : Nat} {ad : Ad} {n : Nat → Nat} {T : St} {k : Nat → Nat} {th : Int32} {b K L9 C0 S0 : Nat} {xs : Nat → Int32} (hfl : l.stackTraces = false) (hC : Cx p m c cL_law 29 s args RL D cy sa de B) (hX : va_X b L9 xs s s.heap) (hbl : b < s.heap.size) (hbA : ¬ AB B b) (hL9 : L9 ≤ 260) (hC0 : C0 ≤ 2000) (hS0 : S0 ≤ 20000) (kend : ∀ (H1 : Heap) (locs1 : List Loc) (ls1 : Array Slot), va_S (AB B) s.heap H1 locs1 → W p l e room_1 s m args below meth c H1 locs1 847444 6559293 Q (F0 m 1550 ls1 [.int 1])) :
    ∀ (r nn : Nat), nn + r = 24 → ∀ (S L : St) (yr : Nat) (H : Heap) (locs : List Loc) (ls : Array Slot), Inv S n → RR S n L K yr → yr ≤ nn → GW D B ad (WL cy de ad S n T k th K 10 L) H → va_S (AB B) s.heap H locs → lo ls 29 (LW b ad K (S 23 0 0) (S 15 5 0) (nI nn) none none none none none none none none none none none none) →
      W p l e room_1 s m args below meth c H locs (C0 + 40 * nn) (S0 + 320 * nn) Q (F0 m 512 ls []) := by
  have hx := hC.x
  have hb := hC.b
  intro r
  induction r with
  | zero =>
    intro nn hnn S L yr H locs ls hI hR hyr hG hS hl
    obtain rfl : nn = 24 := by omega
    refine o_iload hx hb dL_law_512 hl rfl ?_
    refine lv_bipush (v := 24) hx hb dL_law_514 (by decide) ?_
    refine n_icmp_ge (tgt := 1512) hx hb 24 24 rfl rfl (by omega) (by omega) dL_law_516 (by decide) (fun _ => ?_) (fun h => absurd h (by omega))
    exact law_end hfl hC hS hG hI hR hl ⟨by omega, by omega⟩ (fun H1 locs1 ls1 hS1 => by
      refine W.widen (k := 847444) (n := 6559293) (by omega) (by omega) ?_
      exact kend _ _ _ hS1)
  | succ r ih =>
    intro nn hnn S L yr H locs ls hI hR hyr hG hS hl
    have hroom : C0 + 40 * nn + 20 ≤ 847444 ∧ S0 + 320 * nn + 160 ≤ 6559293 := ⟨by omega, by omega⟩
    have back : ∀ (a : Nat), a < 3 → ∀ (S2 L2 : St) (yr2 : Nat) (H1 : Heap) (locs1 : List Loc) (ls1 : Array Slot), Inv S2 n → RR S2 n L2 K yr2 → yr2 ≤ yr + 1 → GW D B ad (WL cy de ad S2 n T k th K 10 L2) H1 → va_S (AB B) s.heap H1 locs1 → lo ls1 29 (LW b ad K (S2 23 0 0) (S2 15 5 0) (nI nn) (some (.int (nI a))) none none none none none none none none none none none) → W p l e room_1 s m args below meth c H1 locs1 (C0 + 40 * nn + 20) (S0 + 320 * nn + 160) Q (F0 m 1286 ls1 []) := by
      intro a ha S2 L2 yr2 H1 locs1 ls1 hI2 hR2 hy2 hG1 hS1 hl1
      refine checks hfl hC hS1 hG1 hI2 hR2 ha hl1 ⟨by omega, by omega⟩ (fun H locs ls hG hS hl => ?_)
      refine o_iinc1 hx hb dL_law_1506 hl rfl (by decide) rfl (fun ls hl => ?_)
      refine lv_goto (tgt := 512) hx hb dL_law_1509 (by decide) ?_
      refine W.widen (k := C0 + 40 * (nn + 1)) (n := S0 + 320 * (nn + 1)) (by omega) (by omega) ?_
      exact ih (nn + 1) (by omega) S2 L2 yr2 _ _ _ hI2 hR2 (by omega) hG hS (lo_none (i := 17) hl)
    refine o_iload hx hb dL_law_512 hl rfl ?_
    refine lv_bipush (v := 24) hx hb dL_law_514 (by decide) ?_
    refine n_icmp_ge (tgt := 1512) hx hb nn 24 rfl rfl (by omega) (by omega) dL_law_516 (by decide) (fun h => absurd h (by omega)) (fun _ => ?_)
    refine o_aload_n hx hb dL_law_519 hl rfl ?_
    refine lv_bipush (v := 40) hx hb dL_law_520 (by decide) ?_
    refine o_iload hx hb dL_law_522 hl rfl ?_
    refine lv_iadd hx hb dL_law_524 ?_
    refine lv_iconst (v := 3) hx hb dL_law_525 (by decide) ?_
    refine k_L_in (40 + nn) 3 hC hS hX hbl hbA hL9 (nI_add 40 nn) rfl (by omega) (by omega) (by omega) ml_L_95 ⟨(Nat.le_of_ble_eq_true rfl), (Nat.le_of_ble_eq_true rfl)⟩ hl.1 (Nat.le_of_ble_eq_true rfl) dL_law_526 ⟨show C0 + 40 * nn + 0 ≤ 847444 by omega, show S0 + 320 * nn + 0 ≤ 6559293 by omega⟩ (fun a ha => ?_)
    refine o_istore hx hb dL_law_529 hl (by decide) rfl (fun ls hl => ?_)
    refine o_aload_n hx hb dL_law_531 hl rfl ?_
    refine lv_bipush (v := 70) hx hb dL_law_532 (by decide) ?_
    refine o_iload hx hb dL_law_534 hl rfl ?_
    refine lv_iadd hx hb dL_law_536 ?_
    refine lv_bipush (v := 7) hx hb dL_law_537 (by decide) ?_
    refine k_L_in (70 + nn) 7 hC hS hX hbl hbA hL9 (nI_add 70 nn) rfl (by omega) (by omega) (by omega) ml_L_95 ⟨(Nat.le_of_ble_eq_true rfl), (Nat.le_of_ble_eq_true rfl)⟩ hl.1 (Nat.le_of_ble_eq_true rfl) dL_law_539 ⟨show C0 + 40 * nn + 0 ≤ 847444 by omega, show S0 + 320 * nn + 0 ≤ 6559293 by omega⟩ (fun ac hac => ?_)
    refine o_istore hx hb dL_law_542 hl (by decide) rfl (fun ls hl => ?_)
    refine o_aload_n hx hb dL_law_544 hl rfl ?_
    refine lv_bipush (v := 100) hx hb dL_law_545 (by decide) ?_
    refine o_iload hx hb dL_law_547 hl rfl ?_
    refine lv_iadd hx hb dL_law_549 ?_
    refine lv_iconst (v := 5) hx hb dL_law_550 (by decide) ?_
    refine k_L_in (100 + nn) 5 hC hS hX hbl hbA hL9 (nI_add 100 nn) rfl (by omega) (by omega) (by omega) ml_L_95 ⟨(Nat.le_of_ble_eq_true rfl), (Nat.le_of_ble_eq_true rfl)⟩ hl.1 (Nat.le_of_ble_eq_true rfl) dL_law_551 ⟨show C0 + 40 * nn + 0 ≤ 847444 by omega, show S0 + 320 * nn + 0 ≤ 6559293 by omega⟩ (fun y hy => ?_)
    refine o_istore hx hb dL_law_554 hl (by decide) rfl (fun ls hl => ?_)
    refine o_aload_n hx hb dL_law_556 hl rfl ?_
    refine lv_sipush (v := 130) hx hb dL_law_557 (by decide) ?_
    refine o_iload hx hb dL_law_560 hl rfl ?_
    refine lv_iadd hx hb dL_law_562 ?_
    refine lv_bipush (v := 101) hx hb dL_law_563 (by decide) ?_
    refine k_L_in (130 + nn) 101 hC hS hX hbl hbA hL9 (nI_add 130 nn) rfl (by omega) (by omega) (by omega) ml_L_95 ⟨(Nat.le_of_ble_eq_true rfl), (Nat.le_of_ble_eq_true rfl)⟩ hl.1 (Nat.le_of_ble_eq_true rfl) dL_law_565 ⟨show C0 + 40 * nn + 0 ≤ 847444 by omega, show S0 + 320 * nn + 0 ≤ 6559293 by omega⟩ (fun v hv => ?_)
    refine o_istore hx hb dL_law_568 hl (by decide) rfl (fun ls hl => ?_)
    refine o_iload hx hb dL_law_570 hl rfl ?_
    refine lv_iconst (v := 2) hx hb dL_law_572 (by decide) ?_
    refine n_icmp_ge (tgt := 618) hx hb ac 2 rfl rfl (by omega) (by omega) dL_law_573 (by decide) (fun h2 => ?_) (fun h2 => ?_)
    · skip
      refine o_iload hx hb dL_law_618 hl rfl ?_
      refine lv_iconst (v := 2) hx hb dL_law_620 (by decide) ?_
      refine lv_icmp_ne (tgt := 707) hx hb dL_law_621 (by decide) (fun h3 => ?_) (fun h3 => ?_)
      · have h4 : 3 ≤ ac := by
          have h5 : ¬ ac = 2 := fun z => h3 (by rw [z]; rfl)
          omega
        refine o_iload hx hb dL_law_707 hl rfl ?_
        refine lv_bipush (v := 6) hx hb dL_law_709 (by decide) ?_
        refine lv_icmp_ne (tgt := 808) hx hb dL_law_711 (by decide) (fun h5 => ?_) (fun h5 => ?_)
        · have h6 : ¬ ac = 6 := fun z => h5 (by rw [z]; rfl)
          by_cases h7 : ac < 5
          · exact act_test hfl hC hS hG hI hR ha h4 h7 (lo_none (i := 19) (lo_none (i := 20) hl)) hroom (fun S2 L2 yr2 H1 locs1 ls1 hI2 hR2 hy2 hG1 hS1 hl1 => back a ha S2 L2 yr2 H1 locs1 ls1 hI2 hR2 hy2 hG1 hS1 hl1)
          · exact act_prot hfl hC hS hG hI hR ha (by omega) (lo_none (i := 19) (lo_none (i := 20) hl)) hroom (fun S2 L2 yr2 H1 locs1 ls1 hI2 hR2 hy2 hG1 hS1 hl1 => back a ha S2 L2 yr2 H1 locs1 ls1 hI2 hR2 hy2 hG1 hS1 hl1)
        · exact act_next hfl hC hS hG hI hR ha (by omega) (lo_none (i := 18) (lo_none (i := 19) (lo_none (i := 20) hl))) hroom (fun S2 L2 yr2 H1 locs1 ls1 hI2 hR2 hy2 hG1 hS1 hl1 => back a ha S2 L2 yr2 H1 locs1 ls1 hI2 hR2 hy2 hG1 hS1 hl1)
      · exact act_show hfl hC hS hG hI hR ha hy hv hl hroom (fun S2 L2 yr2 H1 locs1 ls1 hI2 hR2 hy2 hG1 hS1 hl1 => back a ha S2 L2 yr2 H1 locs1 ls1 hI2 hR2 hy2 hG1 hS1 hl1)
    · exact act_body hfl hC hS hG hI hR ha hy hv hl hroom (fun S2 L2 yr2 H1 locs1 ls1 hI2 hR2 hy2 hG1 hS1 hl1 => back a ha S2 L2 yr2 H1 locs1 ls1 hI2 hR2 hy2 hG1 hS1 hl1)
