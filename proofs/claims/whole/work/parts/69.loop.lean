/-! THE LAW'S LOOP: five ints of the script a round. -/
set_option maxHeartbeats 4000000 in
set_option maxRecDepth 100000 in
theorem law_loop {p : Program} {l : Launch} {e : Env} {s : State} {m : MethodId} {args : Array Value} {below : List Frame} {meth : Method} {c : Code} {Q : State → Prop} {D : va_G} {cy : Nat → ClassId} {sa : Nat → Nat} {de B : Nat} {b L : Nat} {xs : Nat → Int32} {C0 S0 : Nat} (hfl : l.stackTraces = false) (hC : Cx p m c cL_law 9 s args RL D cy sa de B) (hX : va_X b L xs s s.heap) (hbl : b < s.heap.size) (hbA : ¬ AB B b) (hL : L ≤ 2560) (hC0 : C0 ≤ 1000) (hS0 : S0 ≤ 10000)
    (kend : ∀ (H : Heap) (locs : List Loc) (ls : Array Slot), va_S (AB B) s.heap H locs → W p l e room_1 s m args below meth c H locs 601024 7293034 Q (F0 m 2600 ls [.int 1])) :
    ∀ (r j : Nat), j + r = 513 → 5 * j ≤ L → ∀ (ad : Ad) (S : St) (n : Nat → Nat) (th : Int32) (f : Nat → Int64) (g9 : Nat → UInt64) (H : Heap) (locs : List Loc) (ls : Array Slot), Inv S n → GW D B ad (Vw cy de ad S n S n th (Xl cy f g9)) H → va_S (AB B) s.heap H locs → lo ls 9 (LW b ad (nI (5 * j)) none none none) →
      W p l e room_1 s m args below meth c H locs (C0 + 9 * j) (S0 + 56 * j) Q (F0 m 28 ls []) := by
  intro r
  induction r with
  | zero => intro j hj hjL; exfalso; omega
  | succ r ih =>
    intro j hj hjL ad S n th f g9 H locs ls hI hG hS hl
    have hx := hC.x
    have hb := hC.b
    refine o_iload hx hb dL_law_28 hl rfl ?_
    refine o_aload_n hx hb dL_law_30 hl rfl ?_
    refine va_slen hx hb hX hbl hbA hS dL_law_31 ?_
    refine lv_iconst (v := 5) hx hb dL_law_32 (by decide) ?_
    refine lv_isub hx hb dL_law_33 ?_
    refine lv_icmp_gt (tgt := 2599) hx hb dL_law_34 (by decide) (fun h => ?_) (fun h => ?_)
    · refine lv_iconst (v := 1) hx hb dL_law_2599 (by decide) ?_
      refine W.widen (k := 601024) (n := 7293034) (by omega) (by omega) ?_
      exact kend _ _ _ hS
    · have hi : 5 * j + 4 < L := law_in (by omega) hL h
      refine o_aload_n hx hb dL_law_37 hl rfl ?_
      refine o_iload hx hb dL_law_38 hl rfl ?_
      refine va_sld hx hb hX hbl hbA hS (vp_in_nI (by omega) (by omega)) dL_law_40 ?_
      refine lv_bipush (v := 63) hx hb dL_law_41 (by decide) ?_
      refine lv_iand hx hb dL_law_43 ?_
      obtain ⟨q, hq, eq⟩ := and63 (xs (nI (5 * j)).toNatClampNeg)
      refine bi_0 eq.symm ?_
      have hroom : C0 + 9 * j + 9 ≤ 601024 ∧ S0 + 56 * j + 56 ≤ 7293034 := ⟨by omega, by omega⟩
      have back : ∀ (ad' : Ad) (S' : St) (n' : Nat → Nat) (th' : Int32) (f' : Nat → Int64) (g' : Nat → UInt64) (H1 : Heap) (locs1 : List Loc) (ls1 : Array Slot), Inv S' n' → GW D B ad' (Vw cy de ad' S' n' S' n' th' (Xl cy f' g')) H1 → va_S (AB B) s.heap H1 locs1 → lo ls1 9 (LW b ad' (nI (5 * j)) none none none) →
          W p l e room_1 s m args below meth c H1 locs1 (C0 + 9 * j + 9) (S0 + 56 * j + 56) Q (F0 m 2593 ls1 []) := by
        intro ad' S' n' th' f' g' H1 locs1 ls1 hI hG hS hl
        refine o_iinc (v := nI (5 * (j + 1))) hx hb dL_law_2593 hl rfl (by rw [show 5 * (j + 1) = 5 * j + 5 by omega, ← nI_add]; rfl) (by decide) rfl (fun ls hl => ?_)
        refine lv_goto (tgt := 28) hx hb dL_law_2596 (by decide) ?_
        have z := ih (j + 1) (by omega) (by omega) ad' S' n' th' f' g' H1 locs1 ls hI hG hS hl
        rw [show C0 + 9 * (j + 1) = C0 + 9 * j + 9 by omega, show S0 + 56 * (j + 1) = S0 + 56 * j + 56 by omega] at z
        exact z
      match q, hq with
      | 0, _ =>
        refine lv_tableIn (off := 168) (tgt := 212) hx hb dL_law_44 (by decide) (by decide) (by decide) (by decide) ?_
        exact q_athlete hfl hC hS hX hbl hbA hL hi hl hG hI hroom (fun h0 ad9 f2 g2 H locs ls hG hS hl => back _ _ _ _ _ _ _ _ _ (inv_athlete hI h0) hG hS hl) (fun th9 H locs ls hG hS hl => back _ _ _ _ _ _ _ _ _ hI hG hS hl)
      | 1, _ =>
        refine lv_tableIn (off := 224) (tgt := 268) hx hb dL_law_44 (by decide) (by decide) (by decide) (by decide) ?_
        exact q_body hfl hC hS hX hbl hbA hL hi hl hG hI hroom (fun h0 ad9 f2 g2 H locs ls hG hS hl => back _ _ _ _ _ _ _ _ _ (inv_body hI h0) hG hS hl) (fun th9 H locs ls hG hS hl => back _ _ _ _ _ _ _ _ _ hI hG hS hl)
      | 2, _ =>
        refine lv_tableIn (off := 304) (tgt := 348) hx hb dL_law_44 (by decide) (by decide) (by decide) (by decide) ?_
        exact q_show hfl hC hS hX hbl hbA hL hi hl hG hI hroom (fun h0 ad9 f2 g2 H locs ls hG hS hl => back _ _ _ _ _ _ _ _ _ (inv_show hI h0) hG hS hl) (fun th9 H locs ls hG hS hl => back _ _ _ _ _ _ _ _ _ hI hG hS hl)
      | 3, _ =>
        refine lv_tableIn (off := 384) (tgt := 428) hx hb dL_law_44 (by decide) (by decide) (by decide) (by decide) ?_
        exact q_found hfl hC hS hX hbl hbA hL hi hl hG hI hroom (fun h0 ad9 f2 g2 H locs ls hG hS hl => back _ _ _ _ _ _ _ _ _ hI hG hS hl) (fun th9 H locs ls hG hS hl => back _ _ _ _ _ _ _ _ _ hI hG hS hl)
      | 4, _ =>
        refine lv_tableIn (off := 452) (tgt := 496) hx hb dL_law_44 (by decide) (by decide) (by decide) (by decide) ?_
        exact q_classifier hfl hC hS hX hbl hbA hL hi hl hG hI hroom (fun h0 ad9 f2 g2 H locs ls hG hS hl => back _ _ _ _ _ _ _ _ _ (inv_classifier hI h0) hG hS hl) (fun th9 H locs ls hG hS hl => back _ _ _ _ _ _ _ _ _ hI hG hS hl)
      | 5, _ =>
        refine lv_tableIn (off := 508) (tgt := 552) hx hb dL_law_44 (by decide) (by decide) (by decide) (by decide) ?_
        exact q_kind hfl hC hS hX hbl hbA hL hi hl hG hI hroom (fun h0 ad9 f2 g2 H locs ls hG hS hl => back _ _ _ _ _ _ _ _ _ (inv_kind hI h0) hG hS hl) (fun th9 H locs ls hG hS hl => back _ _ _ _ _ _ _ _ _ hI hG hS hl)
      | 6, _ =>
        refine lv_tableIn (off := 600) (tgt := 644) hx hb dL_law_44 (by decide) (by decide) (by decide) (by decide) ?_
        exact q_belongs hfl hC hS hX hbl hbA hL hi hl hG hI hroom (fun h0 ad9 f2 g2 H locs ls hG hS hl => back _ _ _ _ _ _ _ _ _ hI hG hS hl) (fun th9 H locs ls hG hS hl => back _ _ _ _ _ _ _ _ _ hI hG hS hl)
      | 7, _ =>
        refine lv_tableIn (off := 656) (tgt := 700) hx hb dL_law_44 (by decide) (by decide) (by decide) (by decide) ?_
        exact q_test hfl hC hS hX hbl hbA hL hi hl hG hI hroom (fun h0 ad9 f2 g2 H locs ls hG hS hl => back _ _ _ _ _ _ _ _ _ (inv_test hI h0) hG hS hl) (fun th9 H locs ls hG hS hl => back _ _ _ _ _ _ _ _ _ hI hG hS hl)
      | 8, _ =>
        refine lv_tableIn (off := 736) (tgt := 780) hx hb dL_law_44 (by decide) (by decide) (by decide) (by decide) ?_
        exact q_status hfl hC hS hX hbl hbA hL hi hl hG hI hroom (fun h0 ad9 f2 g2 H locs ls hG hS hl => back _ _ _ _ _ _ _ _ _ hI hG hS hl) (fun th9 H locs ls hG hS hl => back _ _ _ _ _ _ _ _ _ hI hG hS hl)
      | 9, _ =>
        refine lv_tableIn (off := 792) (tgt := 836) hx hb dL_law_44 (by decide) (by decide) (by decide) (by decide) ?_
        exact q_classOf hfl hC hS hX hbl hbA hL hi hl hG hI hroom (fun h0 ad9 f2 g2 H locs ls hG hS hl => back _ _ _ _ _ _ _ _ _ hI hG hS hl) (fun th9 H locs ls hG hS hl => back _ _ _ _ _ _ _ _ _ hI hG hS hl)
      | 10, _ =>
        refine lv_tableIn (off := 848) (tgt := 892) hx hb dL_law_44 (by decide) (by decide) (by decide) (by decide) ?_
        exact q_watch hfl hC hS hX hbl hbA hL hi hl hG hI hroom (fun h0 ad9 f2 g2 H locs ls hG hS hl => back _ _ _ _ _ _ _ _ _ (inv_watch hI h0) hG hS hl) (fun th9 H locs ls hG hS hl => back _ _ _ _ _ _ _ _ _ hI hG hS hl)
      | 11, _ =>
        refine lv_tableIn (off := 904) (tgt := 948) hx hb dL_law_44 (by decide) (by decide) (by decide) (by decide) ?_
        exact q_protest hfl hC hS hX hbl hbA hL hi hl hG hI hroom (fun h0 ad9 f2 g2 H locs ls hG hS hl => back _ _ _ _ _ _ _ _ _ (inv_protest hI h0) hG hS hl) (fun th9 H locs ls hG hS hl => back _ _ _ _ _ _ _ _ _ hI hG hS hl)
      | 12, _ =>
        refine lv_tableIn (off := 979) (tgt := 1023) hx hb dL_law_44 (by decide) (by decide) (by decide) (by decide) ?_
        exact q_money hfl hC hS hX hbl hbA hL hi hl hG hI hroom (fun h0 ad9 f2 g2 H locs ls hG hS hl => back _ _ _ _ _ _ _ _ _ hI hG hS hl) (fun th9 H locs ls hG hS hl => back _ _ _ _ _ _ _ _ _ hI hG hS hl)
      | 13, _ =>
        refine lv_tableIn (off := 1035) (tgt := 1079) hx hb dL_law_44 (by decide) (by decide) (by decide) (by decide) ?_
        exact q_border hfl hC hS hX hbl hbA hL hi hl hG hI hroom (fun h0 ad9 f2 g2 H locs ls hG hS hl => back _ _ _ _ _ _ _ _ _ (inv_border hI h0) hG hS hl) (fun th9 H locs ls hG hS hl => back _ _ _ _ _ _ _ _ _ hI hG hS hl)
      | 14, _ =>
        refine lv_tableIn (off := 1115) (tgt := 1159) hx hb dL_law_44 (by decide) (by decide) (by decide) (by decide) ?_
        exact q_year hfl hC hS hX hbl hbA hL hi hl hG hI hroom (fun th9 H locs ls hG hS hl => back _ _ _ _ _ _ _ _ _ hI hG hS hl)
      | 15, _ =>
        refine lv_tableIn (off := 1128) (tgt := 1172) hx hb dL_law_44 (by decide) (by decide) (by decide) (by decide) ?_
        exact q_next hfl hC hS hX hbl hbA hL hi hl hG hI hroom (fun h0 ad9 f2 g2 H locs ls hG hS hl => back _ _ _ _ _ _ _ _ _ (inv_next hI h0) hG hS hl) (fun th9 H locs ls hG hS hl => back _ _ _ _ _ _ _ _ _ hI hG hS hl)
      | 16, _ =>
        refine lv_tableIn (off := 1172) (tgt := 1216) hx hb dL_law_44 (by decide) (by decide) (by decide) (by decide) ?_
        exact q_until hfl hC hS hX hbl hbA hL hi hl hG hI hroom (fun h0 ad9 f2 g2 H locs ls hG hS hl => back _ _ _ _ _ _ _ _ _ hI hG hS hl) (fun th9 H locs ls hG hS hl => back _ _ _ _ _ _ _ _ _ hI hG hS hl)
      | 17, _ =>
        refine lv_tableIn (off := 1228) (tgt := 1272) hx hb dL_law_44 (by decide) (by decide) (by decide) (by decide) ?_
        exact q_event hfl hC hS hX hbl hbA hL hi hl hG hI hroom (fun h0 ad9 f2 g2 H locs ls hG hS hl => back _ _ _ _ _ _ _ _ _ (inv_event hI h0) hG hS hl) (fun th9 H locs ls hG hS hl => back _ _ _ _ _ _ _ _ _ hI hG hS hl)
      | 18, _ =>
        refine lv_tableIn (off := 1284) (tgt := 1328) hx hb dL_law_44 (by decide) (by decide) (by decide) (by decide) ?_
        exact q_factor hfl hC hS hX hbl hbA hL hi hl hG hI hroom (fun h0 ad9 f2 g2 H locs ls hG hS hl => back _ _ _ _ _ _ _ _ _ (inv_factor hI h0) hG hS hl) (fun th9 H locs ls hG hS hl => back _ _ _ _ _ _ _ _ _ hI hG hS hl)
      | 19, _ =>
        refine lv_tableIn (off := 1364) (tgt := 1408) hx hb dL_law_44 (by decide) (by decide) (by decide) (by decide) ?_
        exact q_enter hfl hC hS hX hbl hbA hL hi hl hG hI hroom (fun h0 ad9 f2 g2 H locs ls hG hS hl => back _ _ _ _ _ _ _ _ _ (inv_enter hI h0) hG hS hl) (fun th9 H locs ls hG hS hl => back _ _ _ _ _ _ _ _ _ hI hG hS hl)
      | 20, _ =>
        refine lv_tableIn (off := 1432) (tgt := 1476) hx hb dL_law_44 (by decide) (by decide) (by decide) (by decide) ?_
        exact q_begin hfl hC hS hX hbl hbA hL hi hl hG hI hroom (fun h0 ad9 f2 g2 H locs ls hG hS hl => back _ _ _ _ _ _ _ _ _ (inv_begin hI h0) hG hS hl) (fun th9 H locs ls hG hS hl => back _ _ _ _ _ _ _ _ _ hI hG hS hl)
      | 21, _ =>
        refine lv_tableIn (off := 1488) (tgt := 1532) hx hb dL_law_44 (by decide) (by decide) (by decide) (by decide) ?_
        exact q_result hfl hC hS hX hbl hbA hL hi hl hG hI hroom (fun h0 ad9 f2 g2 H locs ls hG hS hl => back _ _ _ _ _ _ _ _ _ (inv_result hI h0) hG hS hl) (fun th9 H locs ls hG hS hl => back _ _ _ _ _ _ _ _ _ hI hG hS hl)
      | 22, _ =>
        refine lv_tableIn (off := 1580) (tgt := 1624) hx hb dL_law_44 (by decide) (by decide) (by decide) (by decide) ?_
        exact q_fell hfl hC hS hX hbl hbA hL hi hl hG hI hroom (fun h0 ad9 f2 g2 H locs ls hG hS hl => back _ _ _ _ _ _ _ _ _ hI hG hS hl) (fun th9 H locs ls hG hS hl => back _ _ _ _ _ _ _ _ _ hI hG hS hl)
      | 23, _ =>
        refine lv_tableIn (off := 1655) (tgt := 1699) hx hb dL_law_44 (by decide) (by decide) (by decide) (by decide) ?_
        exact q_time hfl hC hS hX hbl hbA hL hi hl hG hI hroom (fun h0 ad9 f2 g2 H locs ls hG hS hl => back _ _ _ _ _ _ _ _ _ hI hG hS hl) (fun th9 H locs ls hG hS hl => back _ _ _ _ _ _ _ _ _ hI hG hS hl)
      | 24, _ =>
        refine lv_tableIn (off := 1723) (tgt := 1767) hx hb dL_law_44 (by decide) (by decide) (by decide) (by decide) ?_
        exact q_inClass hfl hC hS hX hbl hbA hL hi hl hG hI hroom (fun h0 ad9 f2 g2 H locs ls hG hS hl => back _ _ _ _ _ _ _ _ _ hI hG hS hl) (fun th9 H locs ls hG hS hl => back _ _ _ _ _ _ _ _ _ hI hG hS hl)
      | 25, _ =>
        refine lv_tableIn (off := 1791) (tgt := 1835) hx hb dL_law_44 (by decide) (by decide) (by decide) (by decide) ?_
        exact q_close hfl hC hS hX hbl hbA hL hi hl hG hI hroom (fun h0 ad9 f2 g2 H locs ls hG hS hl => back _ _ _ _ _ _ _ _ _ (inv_close hI h0) hG hS hl) (fun th9 H locs ls hG hS hl => back _ _ _ _ _ _ _ _ _ hI hG hS hl)
      | 26, _ =>
        refine lv_tableIn (off := 1847) (tgt := 1891) hx hb dL_law_44 (by decide) (by decide) (by decide) (by decide) ?_
        exact q_at hfl hC hS hX hbl hbA hL hi hl hG hI hroom (fun h0 ad9 f2 g2 H locs ls hG hS hl => back _ _ _ _ _ _ _ _ _ hI hG hS hl) (fun th9 H locs ls hG hS hl => back _ _ _ _ _ _ _ _ _ hI hG hS hl)
      | 27, _ =>
        refine lv_tableIn (off := 1915) (tgt := 1959) hx hb dL_law_44 (by decide) (by decide) (by decide) (by decide) ?_
        exact q_place hfl hC hS hX hbl hbA hL hi hl hG hI hroom (fun h0 ad9 f2 g2 H locs ls hG hS hl => back _ _ _ _ _ _ _ _ _ hI hG hS hl) (fun th9 H locs ls hG hS hl => back _ _ _ _ _ _ _ _ _ hI hG hS hl)
      | 28, _ =>
        refine lv_tableIn (off := 1983) (tgt := 2027) hx hb dL_law_44 (by decide) (by decide) (by decide) (by decide) ?_
        exact q_slot hfl hC hS hX hbl hbA hL hi hl hG hI hroom (fun h0 ad9 f2 g2 H locs ls hG hS hl => back _ _ _ _ _ _ _ _ _ hI hG hS hl) (fun th9 H locs ls hG hS hl => back _ _ _ _ _ _ _ _ _ hI hG hS hl)
      | 29, _ =>
        refine lv_tableIn (off := 2063) (tgt := 2107) hx hb dL_law_44 (by decide) (by decide) (by decide) (by decide) ?_
        exact q_record hfl hC hS hX hbl hbA hL hi hl hG hI hroom (fun h0 ad9 f2 g2 H locs ls hG hS hl => back _ _ _ _ _ _ _ _ _ hI hG hS hl) (fun th9 H locs ls hG hS hl => back _ _ _ _ _ _ _ _ _ hI hG hS hl)
      | 30, _ =>
        refine lv_tableIn (off := 2119) (tgt := 2163) hx hb dL_law_44 (by decide) (by decide) (by decide) (by decide) ?_
        exact q_floor hfl hC hS hX hbl hbA hL hi hl hG hI hroom (fun h0 ad9 f2 g2 H locs ls hG hS hl => back _ _ _ _ _ _ _ _ _ (inv_floor hI h0) hG hS hl) (fun th9 H locs ls hG hS hl => back _ _ _ _ _ _ _ _ _ hI hG hS hl)
      | 31, _ =>
        refine lv_tableIn (off := 2187) (tgt := 2231) hx hb dL_law_44 (by decide) (by decide) (by decide) (by decide) ?_
        exact q_swap hfl hC hS hX hbl hbA hL hi hl hG hI hroom (fun h0 ad9 f2 g2 H locs ls hG hS hl => back _ _ _ _ _ _ _ _ _ (inv_swap hI h0) hG hS hl) (fun th9 H locs ls hG hS hl => back _ _ _ _ _ _ _ _ _ hI hG hS hl)
      | 32, _ =>
        refine lv_tableIn (off := 2267) (tgt := 2311) hx hb dL_law_44 (by decide) (by decide) (by decide) (by decide) ?_
        exact q_onFloor hfl hC hS hX hbl hbA hL hi hl hG hI hroom (fun h0 ad9 f2 g2 H locs ls hG hS hl => back _ _ _ _ _ _ _ _ _ hI hG hS hl) (fun th9 H locs ls hG hS hl => back _ _ _ _ _ _ _ _ _ hI hG hS hl)
      | 33, _ =>
        refine lv_tableIn (off := 2323) (tgt := 2367) hx hb dL_law_44 (by decide) (by decide) (by decide) (by decide) ?_
        exact q_points hfl hC hS hX hbl hbA hL hi hl hG hI hroom (fun h0 ad9 f2 g2 H locs ls hG hS hl => back _ _ _ _ _ _ _ _ _ hI hG hS hl) (fun th9 H locs ls hG hS hl => back _ _ _ _ _ _ _ _ _ hI hG hS hl)
      | 34, _ =>
        refine lv_tableIn (off := 2379) (tgt := 2423) hx hb dL_law_44 (by decide) (by decide) (by decide) (by decide) ?_
        exact q_checksum hfl hC hS hX hbl hbA hL hi hl hG hI hroom (fun th9 H locs ls hG hS hl => back _ _ _ _ _ _ _ _ _ hI hG hS hl)
      | 35, _ =>
        refine lv_tableIn (off := 2393) (tgt := 2437) hx hb dL_law_44 (by decide) (by decide) (by decide) (by decide) ?_
        exact q_fallenShare hfl hC hS hX hbl hbA hL hi hl hG hI hroom (fun h0 ad9 f2 g2 H locs ls hG hS hl => back _ _ _ _ _ _ _ _ _ hI hG hS hl) (fun th9 H locs ls hG hS hl => back _ _ _ _ _ _ _ _ _ hI hG hS hl)
      | 36, _ =>
        refine lv_tableIn (off := 2459) (tgt := 2503) hx hb dL_law_44 (by decide) (by decide) (by decide) (by decide) ?_
        exact q_meanLack hfl hC hS hX hbl hbA hL hi hl hG hI hroom (fun h0 ad9 f2 g2 H locs ls hG hS hl => back _ _ _ _ _ _ _ _ _ hI hG hS hl) (fun th9 H locs ls hG hS hl => back _ _ _ _ _ _ _ _ _ hI hG hS hl)
      | 37, _ =>
        refine lv_tableIn (off := 2536) (tgt := 2580) hx hb dL_law_44 (by decide) (by decide) (by decide) (by decide) ?_
        exact q_isSound hfl hC hS hX hbl hbA hL hi hl hG hI hroom (inv_sound hI) (fun th9 H locs ls hG hS hl => back _ _ _ _ _ _ _ _ _ hI hG hS hl)
      | q + 38, hq =>
        refine lv_tableOut (tgt := 2593) hx hb dL_law_44 (Or.inr (by rw [nI_toInt (by omega)]; omega)) (by decide) ?_
        refine W.widen (k := C0 + 9 * j + 9) (n := S0 + 56 * j + 56) (by omega) (by omega) ?_
        exact back _ _ _ _ _ _ _ _ _ hI hG hS hl
