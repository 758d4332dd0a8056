/-! THE ACTS of the law: a body changes, is shown, the next year. -/
set_option maxHeartbeats 4000000 in
set_option maxRecDepth 100000 in
theorem act_body {p : Program} {l : Launch} {e : Env} {s : State} {m : MethodId} {args : Array Value} {below : List Frame} {meth : Method} {c : Code} {H : Heap} {locs : List Loc} {cells slots : Nat} {Q : State → Prop} {ls : Array Slot} {D : va_G} {cy : Nat → ClassId} {sa : Nat → Nat} {de B : Nat} {ad : Ad} {S : St} {n : Nat → Nat} {T : St} {k : Nat → Nat} {th : Int32} {L : St} {b K yr nn : Nat} {a ac y v : Nat} (hfl : l.stackTraces = false) (hC : Cx p m c cL_law 29 s args RL D cy sa de B) (hS : va_S (AB B) s.heap H locs) (hG : GW D B ad (WL cy de ad S n T k th K 10 L) H) (hI : Inv S n) (hR : RR S n L K yr) (ha : a < 3) (hy : y < 5) (hv : v < 101) (hl : lo ls 29 (LW b ad K (S 23 0 0) (S 15 5 0) (nI nn) (some (.int (nI a))) (some (.int (nI ac))) (some (.int (nI y))) (some (.int (nI v))) none none none none none none none none)) (hroom : cells + 20 ≤ 847444 ∧ slots + 160 ≤ 6559293) (k0 : ∀ (S2 L2 : St) (yr2 : Nat) (H1 : Heap) (locs1 : List Loc) (ls1 : Array Slot), Inv S2 n → RR S2 n L2 K yr2 → yr2 ≤ yr + 1 → GW D B ad (WL cy de ad S2 n T k th K 10 L2) H1 → va_S (AB B) s.heap H1 locs1 → lo ls1 29 (LW b ad K (S2 23 0 0) (S2 15 5 0) (nI nn) (some (.int (nI a))) none none none none none none none none none none none) → W p l e room_1 s m args below meth c H1 locs1 (cells + 20) (slots + 160) Q (F0 m 1286 ls1 [])) : W p l e room_1 s m args below meth c H locs cells slots Q (F0 m 576 ls []) := by
  have hx := hC.x
  have hb := hC.b
  have e0 : n 0 = 3 := hR.1.1
  have e1 : n 1 = 4 := hR.1.2.1
  have e2 : n 2 = K := hR.1.2.2.1
  have hK8 : n 2 ≤ 8 := hI.1.1.2.2.1
  have za : ci (nI a) = a := nI_clamp (by omega)
  have zy : ci (nI y) = y := nI_clamp (by omega)
  refine o_iload_n hx hb dL_law_576 hl rfl ?_
  refine o_aload_n hx hb dL_law_577 hl rfl ?_
  refine o_iload hx hb dL_law_578 hl rfl ?_
  refine o_iload hx hb dL_law_580 hl rfl ?_
  refine o_iload hx hb dL_law_582 hl rfl ?_
  refine kv_L_body hfl hC hS hG ⟨hI, XL_19⟩ ml_L_117 ⟨(Nat.le_of_ble_eq_true rfl), (Nat.le_of_ble_eq_true rfl)⟩ hl.1 (Nat.le_of_ble_eq_true rfl) dL_law_584 ⟨show cells + 3 ≤ 847444 by omega, show slots + 18 ≤ 6559293 by omega⟩ (cd_body0 (by omega) hy hv) (fun H locs hG hS => ?_)
  refine bi_0 (x := S 6 a y) (by rw [za, zy]) ?_
  refine o_aload hx hb dL_law_587 hl rfl ?_
  refine o_iload hx hb dL_law_589 hl rfl ?_
  refine g_aald hC hG 7 rfl rfl (V_o (i := 4) (by decide) (by decide) (by decide)) (a) rfl (by omega) (by decide) dL_law_591 ?_
  refine o_iload hx hb dL_law_592 hl rfl ?_
  refine g_iald hC hG (V_r (i := 4) (a := a) (by decide) (by decide) (by decide) (by omega)) (y) rfl (by omega) (by decide) dL_law_594 ?_
  refine lv_icmp_ne (tgt := 602) hx hb dL_law_595 (by decide) (fun h => absurd ((hR.2.1 a y ha hy).1.symm) h) (fun _ => ?_)
  refine lv_iconst (v := 1) hx hb dL_law_598 (by decide) ?_
  refine lv_goto (tgt := 603) hx hb dL_law_599 (by decide) ?_
  refine lv_iand hx hb dL_law_603 ?_
  refine bi_0 (x := 1) (by decide) ?_
  refine o_istore_n hx hb dL_law_604 hl (by decide) rfl (fun ls hl => ?_)
  refine o_aload hx hb dL_law_605 hl rfl ?_
  refine o_iload hx hb dL_law_607 hl rfl ?_
  refine g_aald hC hG 7 rfl rfl (V_o (i := 4) (by decide) (by decide) (by decide)) (a) rfl (by omega) (by decide) dL_law_609 ?_
  refine o_iload hx hb dL_law_610 hl rfl ?_
  refine o_iload hx hb dL_law_612 hl rfl ?_
  refine g_iast hC hG hS (V_r (i := 4) (a := a) (by decide) (by decide) (by decide) (by omega)) (y) rfl (by omega) (by decide) (P_r (by decide) (by decide) (by decide) (by omega)) dL_law_614 (fun H locs hG hS => ?_)
  refine lv_goto (tgt := 1286) hx hb dL_law_615 (by decide) ?_
  refine W.widen (k := cells + 20) (n := slots + 160) (by omega) (by omega) ?_
  exact k0 _ _ yr _ _ _ (inv_body hI (cd_body0 (by omega) hy hv)) (RR_body hR ha hy) (by omega) hG hS (lo_none (i := 18) (lo_none (i := 19) (lo_none (i := 20) hl)))
set_option maxHeartbeats 4000000 in
set_option maxRecDepth 100000 in
theorem act_show {p : Program} {l : Launch} {e : Env} {s : State} {m : MethodId} {args : Array Value} {below : List Frame} {meth : Method} {c : Code} {H : Heap} {locs : List Loc} {cells slots : Nat} {Q : State → Prop} {ls : Array Slot} {D : va_G} {cy : Nat → ClassId} {sa : Nat → Nat} {de B : Nat} {ad : Ad} {S : St} {n : Nat → Nat} {T : St} {k : Nat → Nat} {th : Int32} {L : St} {b K yr nn : Nat} {a ac y v : Nat} (hfl : l.stackTraces = false) (hC : Cx p m c cL_law 29 s args RL D cy sa de B) (hS : va_S (AB B) s.heap H locs) (hG : GW D B ad (WL cy de ad S n T k th K 10 L) H) (hI : Inv S n) (hR : RR S n L K yr) (ha : a < 3) (hy : y < 5) (hv : v < 101) (hl : lo ls 29 (LW b ad K (S 23 0 0) (S 15 5 0) (nI nn) (some (.int (nI a))) (some (.int (nI ac))) (some (.int (nI y))) (some (.int (nI v))) none none none none none none none none)) (hroom : cells + 20 ≤ 847444 ∧ slots + 160 ≤ 6559293) (k0 : ∀ (S2 L2 : St) (yr2 : Nat) (H1 : Heap) (locs1 : List Loc) (ls1 : Array Slot), Inv S2 n → RR S2 n L2 K yr2 → yr2 ≤ yr + 1 → GW D B ad (WL cy de ad S2 n T k th K 10 L2) H1 → va_S (AB B) s.heap H1 locs1 → lo ls1 29 (LW b ad K (S2 23 0 0) (S2 15 5 0) (nI nn) (some (.int (nI a))) none none none none none none none none none none none) → W p l e room_1 s m args below meth c H1 locs1 (cells + 20) (slots + 160) Q (F0 m 1286 ls1 [])) : W p l e room_1 s m args below meth c H locs cells slots Q (F0 m 624 ls []) := by
  have hx := hC.x
  have hb := hC.b
  have e0 : n 0 = 3 := hR.1.1
  have e1 : n 1 = 4 := hR.1.2.1
  have e2 : n 2 = K := hR.1.2.2.1
  have hK8 : n 2 ≤ 8 := hI.1.1.2.2.1
  have za : ci (nI a) = a := nI_clamp (by omega)
  have zy : ci (nI y) = y := nI_clamp (by omega)
  obtain ⟨r4, r5, -⟩ := hR.2.1 a y ha hy
  have m5 : -1 ≤ S 7 a y ∧ S 7 a y ≤ 100 := (hI.2.2.2.2.2.2.2.2.2.2.2.2.2.2.1 a y (by omega) hy).2.1
  have tail2 : ∀ (tv : Int32) (ls : Array Slot), (tv = -1 ∨ ∃ q, q < 101 ∧ tv = nI q) → lo ls 29 (LW b ad K (S 23 0 0) (S 15 5 0) (nI nn) (some (.int (nI a))) (some (.int (nI ac))) (some (.int (nI y))) (some (.int (nI v))) (some (.int (shv S a y))) none none none none none none none) → W p l e room_1 s m args below meth c H locs cells slots Q (F0 m 669 ls [.int tv]) := by
    intro tv ls htv hl
    refine o_istore hx hb dL_law_669 hl (by decide) rfl (fun ls hl => ?_)
    refine o_iload_n hx hb dL_law_671 hl rfl ?_
    refine o_aload_n hx hb dL_law_672 hl rfl ?_
    refine o_iload hx hb dL_law_673 hl rfl ?_
    refine o_iload hx hb dL_law_675 hl rfl ?_
    refine o_iload hx hb dL_law_677 hl rfl ?_
    refine kv_L_show hfl hC hS hG ⟨hI, XL_19⟩ ml_L_119 ⟨(Nat.le_of_ble_eq_true rfl), (Nat.le_of_ble_eq_true rfl)⟩ hl.1 (Nat.le_of_ble_eq_true rfl) dL_law_679 ⟨show cells + 3 ≤ 847444 by omega, show slots + 18 ≤ 6559293 by omega⟩ (cd_show0 (by omega) hy htv) (fun H locs hG hS => ?_)
    refine bi_0 (x := shv S a y) (by rw [za, zy]) ?_
    refine o_iload hx hb dL_law_682 hl rfl ?_
    refine lv_icmp_ne (tgt := 691) hx hb dL_law_684 (by decide) (fun h => absurd (rfl) h) (fun _ => ?_)
    refine lv_iconst (v := 1) hx hb dL_law_687 (by decide) ?_
    refine lv_goto (tgt := 692) hx hb dL_law_688 (by decide) ?_
    refine lv_iand hx hb dL_law_692 ?_
    refine bi_0 (x := 1) (by decide) ?_
    refine o_istore_n hx hb dL_law_693 hl (by decide) rfl (fun ls hl => ?_)
    refine o_aload hx hb dL_law_694 hl rfl ?_
    refine o_iload hx hb dL_law_696 hl rfl ?_
    refine g_aald hC hG 7 rfl rfl (V_o (i := 5) (by decide) (by decide) (by decide)) (a) rfl (by omega) (by decide) dL_law_698 ?_
    refine o_iload hx hb dL_law_699 hl rfl ?_
    refine o_iload hx hb dL_law_701 hl rfl ?_
    refine g_iast hC hG hS (V_r (i := 5) (a := a) (by decide) (by decide) (by decide) (by omega)) (y) rfl (by omega) (by decide) (P_r (by decide) (by decide) (by decide) (by omega)) dL_law_703 (fun H locs hG hS => ?_)
    refine lv_goto (tgt := 1286) hx hb dL_law_704 (by decide) ?_
    refine W.widen (k := cells + 20) (n := slots + 160) (by omega) (by omega) ?_
    exact k0 _ _ yr _ _ _ (inv_show hI (cd_show0 (by omega) hy htv)) (RR_show hR ha hy) (by omega) hG hS (lo_none (i := 18) (lo_none (i := 19) (lo_none (i := 20) (lo_none (i := 21) (lo_none (i := 22) hl)))))
  have tail : ∀ (ls : Array Slot), lo ls 29 (LW b ad K (S 23 0 0) (S 15 5 0) (nI nn) (some (.int (nI a))) (some (.int (nI ac))) (some (.int (nI y))) (some (.int (nI v))) none none none none none none none none) → W p l e room_1 s m args below meth c H locs cells slots Q (F0 m 654 ls [.int (shv S a y)]) := by
    intro ls hl
    refine o_istore hx hb dL_law_654 hl (by decide) rfl (fun ls hl => ?_)
    refine o_iload hx hb dL_law_656 hl rfl ?_
    refine lv_bipush (v := 80) hx hb dL_law_658 (by decide) ?_
    refine lv_icmp_le (tgt := 667) hx hb dL_law_660 (by decide) (fun h => ?_) (fun h => ?_)
    · skip
      refine o_iload hx hb dL_law_667 hl rfl ?_
      exact tail2 _ ls (Or.inr ⟨v, hv, rfl⟩) hl
    · skip
      refine lv_iconst (v := (-1)) hx hb dL_law_663 (by decide) ?_
      refine lv_goto (tgt := 669) hx hb dL_law_664 (by decide) ?_
      exact tail2 _ ls (Or.inl rfl) hl
  refine o_aload hx hb dL_law_624 hl rfl ?_
  refine o_iload hx hb dL_law_626 hl rfl ?_
  refine g_aald hC hG 7 rfl rfl (V_o (i := 5) (by decide) (by decide) (by decide)) (a) rfl (by omega) (by decide) dL_law_628 ?_
  refine o_iload hx hb dL_law_629 hl rfl ?_
  refine g_iald hC hG (V_r (i := 5) (a := a) (by decide) (by decide) (by decide) (by omega)) (y) rfl (by omega) (by decide) dL_law_631 ?_
  refine lv_if_ge (tgt := 646) hx hb dL_law_632 (by decide) (fun h => ?_) (fun h => ?_)
  · skip
    refine o_aload hx hb dL_law_646 hl rfl ?_
    refine o_iload hx hb dL_law_648 hl rfl ?_
    refine g_aald hC hG 7 rfl rfl (V_o (i := 5) (by decide) (by decide) (by decide)) (a) rfl (by omega) (by decide) dL_law_650 ?_
    refine o_iload hx hb dL_law_651 hl rfl ?_
    refine g_iald hC hG (V_r (i := 5) (a := a) (by decide) (by decide) (by decide) (by omega)) (y) rfl (by omega) (by decide) dL_law_653 ?_
    refine bi_0 (x := shv S a y) (by rw [r5] at h ⊢; unfold shv; rw [if_neg (fun z => by rw [z] at h; exact absurd h (by decide))]) ?_
    exact tail ls hl
  · skip
    refine o_aload hx hb dL_law_635 hl rfl ?_
    refine o_iload hx hb dL_law_637 hl rfl ?_
    refine g_aald hC hG 7 rfl rfl (V_o (i := 4) (by decide) (by decide) (by decide)) (a) rfl (by omega) (by decide) dL_law_639 ?_
    refine o_iload hx hb dL_law_640 hl rfl ?_
    refine g_iald hC hG (V_r (i := 4) (a := a) (by decide) (by decide) (by decide) (by omega)) (y) rfl (by omega) (by decide) dL_law_642 ?_
    refine lv_goto (tgt := 654) hx hb dL_law_643 (by decide) ?_
    refine bi_0 (x := shv S a y) (by rw [r5] at h; rw [r4]; unfold shv; rw [if_pos ((m1_iff.mp m5).resolve_right (fun z => h z.1))]) ?_
    exact tail ls hl
set_option maxHeartbeats 4000000 in
set_option maxRecDepth 100000 in
theorem act_next {p : Program} {l : Launch} {e : Env} {s : State} {m : MethodId} {args : Array Value} {below : List Frame} {meth : Method} {c : Code} {H : Heap} {locs : List Loc} {cells slots : Nat} {Q : State → Prop} {ls : Array Slot} {D : va_G} {cy : Nat → ClassId} {sa : Nat → Nat} {de B : Nat} {ad : Ad} {S : St} {n : Nat → Nat} {T : St} {k : Nat → Nat} {th : Int32} {L : St} {b K yr nn : Nat} {a : Nat} (hfl : l.stackTraces = false) (hC : Cx p m c cL_law 29 s args RL D cy sa de B) (hS : va_S (AB B) s.heap H locs) (hG : GW D B ad (WL cy de ad S n T k th K 10 L) H) (hI : Inv S n) (hR : RR S n L K yr) (ha : a < 3) (hyr : yr < 40) (hl : lo ls 29 (LW b ad K (S 23 0 0) (S 15 5 0) (nI nn) (some (.int (nI a))) none none none none none none none none none none none)) (hroom : cells + 20 ≤ 847444 ∧ slots + 160 ≤ 6559293) (k0 : ∀ (S2 L2 : St) (yr2 : Nat) (H1 : Heap) (locs1 : List Loc) (ls1 : Array Slot), Inv S2 n → RR S2 n L2 K yr2 → yr2 ≤ yr + 1 → GW D B ad (WL cy de ad S2 n T k th K 10 L2) H1 → va_S (AB B) s.heap H1 locs1 → lo ls1 29 (LW b ad K (S2 23 0 0) (S2 15 5 0) (nI nn) (some (.int (nI a))) none none none none none none none none none none none) → W p l e room_1 s m args below meth c H1 locs1 (cells + 20) (slots + 160) Q (F0 m 1286 ls1 [])) : W p l e room_1 s m args below meth c H locs cells slots Q (F0 m 714 ls []) := by
  have hx := hC.x
  have hb := hC.b
  have e0 : n 0 = 3 := hR.1.1
  have e1 : n 1 = 4 := hR.1.2.1
  have e2 : n 2 = K := hR.1.2.2.1
  have hK8 : n 2 ≤ 8 := hI.1.1.2.2.1
  have za : ci (nI a) = a := nI_clamp (by omega)
  refine o_iinc (v := S 23 0 0 + 1) hx hb dL_law_714 hl rfl rfl (by decide) rfl (fun ls hl => ?_)
  refine o_iload_n hx hb dL_law_717 hl rfl ?_
  refine o_aload_n hx hb dL_law_718 hl rfl ?_
  refine kv_L_next hfl hC hS hG ⟨hI, XL_19⟩ ml_L_121 ⟨(Nat.le_of_ble_eq_true rfl), (Nat.le_of_ble_eq_true rfl)⟩ hl.1 (Nat.le_of_ble_eq_true rfl) dL_law_719 ⟨show cells + 1 ≤ 847444 by omega, show slots + 6 ≤ 6559293 by omega⟩ (cd_next0 hR hyr) (fun H locs hG hS => ?_)
  have hG2 := hG
  refine bi_0 (x := S 23 0 0 + 1) nxt_23.symm ?_
  refine o_iload hx hb dL_law_722 hl rfl ?_
  refine lv_icmp_ne (tgt := 740) hx hb dL_law_724 (by decide) (fun h => absurd (rfl) h) (fun _ => ?_)
  refine o_aload_n hx hb dL_law_727 hl rfl ?_
  refine k_X6_year hC hS hG trivial ml_L_124 ⟨(Nat.le_of_ble_eq_true rfl), (Nat.le_of_ble_eq_true rfl)⟩ hl.1 (Nat.le_of_ble_eq_true rfl) dL_law_728 ⟨show cells + 1 + 0 ≤ 847444 by omega, show slots + 6 + 0 ≤ 6559293 by omega⟩ ?_
  refine bi_0 (x := S 23 0 0 + 1) nxt_23.symm ?_
  refine o_iload hx hb dL_law_731 hl rfl ?_
  refine lv_icmp_ne (tgt := 740) hx hb dL_law_733 (by decide) (fun h => absurd (rfl) h) (fun _ => ?_)
  refine lv_iconst (v := 1) hx hb dL_law_736 (by decide) ?_
  refine lv_goto (tgt := 741) hx hb dL_law_737 (by decide) ?_
  refine lv_iand hx hb dL_law_741 ?_
  refine bi_0 (x := 1) (by decide) ?_
  refine o_istore_n hx hb dL_law_742 hl (by decide) rfl (fun ls hl => ?_)
  have loop : ∀ (r j : Nat), j + r = 3 → ∀ (H : Heap) (locs : List Loc) (ls : Array Slot), GW D B ad (WL cy de ad (nxtS S n) n T k th K 10 (ovL L (S 23 0 0 + 1) j)) H → va_S (AB B) s.heap H locs → lo ls 29 (LW b ad K (S 23 0 0 + 1) (S 15 5 0) (nI nn) (some (.int (nI a))) none none none (some (.int (nI j))) none none none none none none none) → W p l e room_1 s m args below meth c H locs (cells + 1) (slots + 6) Q (F0 m 746 ls []) := by
    intro r
    induction r with
    | zero =>
      intro j hj H locs ls hG hS hl
      obtain rfl : j = 3 := by omega
      refine o_iload hx hb dL_law_746 hl rfl ?_
      refine lv_iconst (v := 3) hx hb dL_law_748 (by decide) ?_
      refine n_icmp_ge (tgt := 805) hx hb 3 3 rfl rfl (by omega) (by omega) dL_law_749 (by decide) (fun _ => ?_) (fun h => absurd h (by omega))
      refine lv_goto (tgt := 1286) hx hb dL_law_805 (by decide) ?_
      refine W.widen (k := cells + 20) (n := slots + 160) (by omega) (by omega) ?_
      exact k0 _ _ (yr + 1) _ _ _ (inv_next hI (cd_next0 hR hyr)) (RR_next hR hI) (Nat.le_refl _) hG hS (by rw [nxt_23, show nxtS S n 15 = S 15 from neS_c (n 0) (by decide) (by decide) (by decide) (by decide) (by decide) (by decide) (by decide)]; exact lo_none (i := 21) hl)
    | succ r ih =>
      intro j hj H locs ls hG hS hl
      refine o_iload hx hb dL_law_746 hl rfl ?_
      refine lv_iconst (v := 3) hx hb dL_law_748 (by decide) ?_
      refine n_icmp_ge (tgt := 805) hx hb j 3 rfl rfl (by omega) (by omega) dL_law_749 (by decide) (fun h => absurd h (by omega)) (fun _ => ?_)
      have tail : ∀ (ov : Int32) (ls : Array Slot), (ov = 0 ∧ ¬ (ovL L (S 23 0 0 + 1) j 8 j 0 = 120 ∧ ovL L (S 23 0 0 + 1) j 9 j 0 = S 23 0 0 + 1)) ∨ (ov = 1 ∧ ovL L (S 23 0 0 + 1) j 8 j 0 = 120 ∧ ovL L (S 23 0 0 + 1) j 9 j 0 = S 23 0 0 + 1) → lo ls 29 (LW b ad K (S 23 0 0 + 1) (S 15 5 0) (nI nn) (some (.int (nI a))) none none none (some (.int (nI j))) none none none none none none none) → W p l e room_1 s m args below meth c H locs (cells + 1) (slots + 6) Q (F0 m 777 ls [.int ov]) := by
        intro ov ls hov hl
        refine o_istore hx hb dL_law_777 hl (by decide) rfl (fun ls hl => ?_)
        refine o_aload hx hb dL_law_779 hl rfl ?_
        refine o_iload hx hb dL_law_781 hl rfl ?_
        refine o_iload hx hb dL_law_783 hl rfl ?_
        rcases hov with ⟨rfl, hn⟩ | ⟨rfl, hp⟩
        · skip
          refine lv_if_eq (tgt := 793) hx hb dL_law_785 (by decide) (fun _ => ?_) (fun h => absurd rfl h)
          refine o_aload hx hb dL_law_793 hl rfl ?_
          refine o_iload hx hb dL_law_795 hl rfl ?_
          refine g_iald hC hG (V_c (i := 8) (by decide) (by decide) (by decide)) (j) rfl (by omega) (by decide) dL_law_797 ?_
          refine bi_0 (x := cif (ovL L (S 23 0 0 + 1) j 8 j 0 = 120 ∧ ovL L (S 23 0 0 + 1) j 9 j 0 = S 23 0 0 + 1) 45 (ovL L (S 23 0 0 + 1) j 8 j 0)) (cif_f hn) ?_
          refine g_iast hC hG hS (V_c (i := 8) (by decide) (by decide) (by decide)) (j) rfl (by omega) (by decide) (P_c (by decide) (by decide) (by decide)) dL_law_798 (fun H locs hG hS => ?_)
          refine o_iinc1 hx hb dL_law_799 hl rfl (by decide) rfl (fun ls hl => ?_)
          refine lv_goto (tgt := 746) hx hb dL_law_802 (by decide) ?_
          exact ih (j + 1) (by omega) _ _ _ hG hS (lo_none (i := 22) hl)
        · skip
          refine lv_if_eq (tgt := 793) hx hb dL_law_785 (by decide) (fun h => absurd h (by decide)) (fun _ => ?_)
          refine lv_bipush (v := 45) hx hb dL_law_788 (by decide) ?_
          refine lv_goto (tgt := 798) hx hb dL_law_790 (by decide) ?_
          refine bi_0 (x := cif (ovL L (S 23 0 0 + 1) j 8 j 0 = 120 ∧ ovL L (S 23 0 0 + 1) j 9 j 0 = S 23 0 0 + 1) 45 (ovL L (S 23 0 0 + 1) j 8 j 0)) (cif_t hp) ?_
          refine g_iast hC hG hS (V_c (i := 8) (by decide) (by decide) (by decide)) (j) rfl (by omega) (by decide) (P_c (by decide) (by decide) (by decide)) dL_law_798 (fun H locs hG hS => ?_)
          refine o_iinc1 hx hb dL_law_799 hl rfl (by decide) rfl (fun ls hl => ?_)
          refine lv_goto (tgt := 746) hx hb dL_law_802 (by decide) ?_
          exact ih (j + 1) (by omega) _ _ _ hG hS (lo_none (i := 22) hl)
      refine o_aload hx hb dL_law_752 hl rfl ?_
      refine o_iload hx hb dL_law_754 hl rfl ?_
      refine g_iald hC hG (V_c (i := 8) (by decide) (by decide) (by decide)) (j) rfl (by omega) (by decide) dL_law_756 ?_
      refine lv_bipush (v := 120) hx hb dL_law_757 (by decide) ?_
      refine lv_icmp_ne (tgt := 776) hx hb dL_law_759 (by decide) (fun h => ?_) (fun h => ?_)
      · skip
        refine lv_iconst (v := 0) hx hb dL_law_776 (by decide) ?_
        exact tail _ ls (Or.inl ⟨rfl, fun z => h z.1⟩) hl
      · skip
        refine o_aload hx hb dL_law_762 hl rfl ?_
        refine o_iload hx hb dL_law_764 hl rfl ?_
        refine g_iald hC hG (V_c (i := 9) (by decide) (by decide) (by decide)) (j) rfl (by omega) (by decide) dL_law_766 ?_
        refine o_iload hx hb dL_law_767 hl rfl ?_
        refine lv_icmp_ne (tgt := 776) hx hb dL_law_769 (by decide) (fun h2 => ?_) (fun h2 => ?_)
        · skip
          refine lv_iconst (v := 0) hx hb dL_law_776 (by decide) ?_
          exact tail _ ls (Or.inl ⟨rfl, fun z => h2 z.2⟩) hl
        · skip
          refine lv_iconst (v := 1) hx hb dL_law_772 (by decide) ?_
          refine lv_goto (tgt := 777) hx hb dL_law_773 (by decide) ?_
          exact tail _ ls (Or.inr ⟨rfl, h, h2⟩) hl
  refine lv_iconst (v := 0) hx hb dL_law_743 (by decide) ?_
  refine o_istore hx hb dL_law_744 hl (by decide) rfl (fun ls hl => ?_)
  exact loop 3 0 rfl _ _ _ hG hS hl
