/-! THE LAW'S BEGINNING: wrong calls, the classes that are drawn, the arrays. -/
set_option maxHeartbeats 4000000 in
set_option maxRecDepth 100000 in
theorem set1 {p : Program} {l : Launch} {e : Env} {s : State} {m : MethodId} {args : Array Value} {below : List Frame} {meth : Method} {c : Code} {Q : State → Prop} {D : va_G} {cy : Nat → ClassId} {sa : Nat → Nat} {de B : Nat} {T : St} {k : Nat → Nat} {th : Int32} {H : Heap} {locs : List Loc} {cells slots b : Nat} {ls : Array Slot} {ad : Ad} {S : St} {n : Nat → Nat} {X : Rl} (hfl : l.stackTraces = false) (hC : Cx p m c cL_law 29 s args RL D cy sa de B) (hS : va_S (AB B) s.heap H locs) (hG : GW D B ad (Vw cy de ad S n T k th X) H) (hI : Inv S n) (hX19 : X 19 0 0 = none) (e0 : n 0 = 0) (hl : lo ls 29 [some (.ref b), some (.ref (ad 0 0 0)), none, none, none, none, none, none, none, none, none, none, none, none, none, none, none, none, none, none, none, none, none, none, none, none, none, none, none]) (hroom : cells + 30 ≤ 847444 ∧ slots + 250 ≤ 6559293) (kk : ∀ (H1 : Heap) (locs1 : List Loc) (ls1 : Array Slot), GW D B ad (Vw cy de ad S n T k th X) H1 → va_S (AB B) s.heap H1 locs1 → lo ls1 29 [some (.ref b), some (.ref (ad 0 0 0)), some (.int 1), none, none, none, none, none, none, none, none, none, none, none, none, none, none, none, none, none, none, none, none, none, none, none, none, none, none] → W p l e room_1 s m args below meth c H1 locs1 (cells + 30) (slots + 250) Q (F0 m 84 ls1 [])) : W p l e room_1 s m args below meth c H locs cells slots Q (F0 m 8 ls []) := by
  have hx := hC.x
  have hb := hC.b
  refine o_aload_n hx hb dL_law_8 hl rfl ?_
  refine lv_bipush (v := 6) hx hb dL_law_9 (by decide) ?_
  refine kx_L_athlete (t0 := 1) hfl hC hS hG ⟨hI, hX19⟩ ml_L_85 ⟨(Nat.le_of_ble_eq_true rfl), (Nat.le_of_ble_eq_true rfl)⟩ hl.1 (Nat.le_of_ble_eq_true rfl) dL_law_11 ⟨show cells + 9 ≤ 847444 by omega, show slots + 56 ≤ 6559293 by omega⟩ (by decide) cd_ath6 (fun H locs hG hS => ?_)
  refine lv_ldc hx hb hC.o (hC.t _ ct_L_17) dL_law_14 ?_
  refine lv_icmp_ne (tgt := 82) hx hb dL_law_16 (by decide) (fun h => absurd (rfl) h) (fun _ => ?_)
  refine o_aload_n hx hb dL_law_19 hl rfl ?_
  refine lv_iconst (v := (-1)) hx hb dL_law_20 (by decide) ?_
  refine kx_L_classifier (t0 := 1) hfl hC hS hG ⟨hI, hX19⟩ ml_L_88 ⟨(Nat.le_of_ble_eq_true rfl), (Nat.le_of_ble_eq_true rfl)⟩ hl.1 (Nat.le_of_ble_eq_true rfl) dL_law_21 ⟨show cells + 9 + 3 ≤ 847444 by omega, show slots + 56 + 29 ≤ 6559293 by omega⟩ (by decide) cd_cla1 (fun H locs hG hS => ?_)
  refine lv_ldc hx hb hC.o (hC.t _ ct_L_17) dL_law_24 ?_
  refine lv_icmp_ne (tgt := 82) hx hb dL_law_26 (by decide) (fun h => absurd (rfl) h) (fun _ => ?_)
  refine o_aload_n hx hb dL_law_29 hl rfl ?_
  refine lv_iconst (v := 5) hx hb dL_law_30 (by decide) ?_
  refine lv_iconst (v := 1) hx hb dL_law_31 (by decide) ?_
  refine lv_iconst (v := 0) hx hb dL_law_32 (by decide) ?_
  refine lv_iconst (v := 1) hx hb dL_law_33 (by decide) ?_
  refine kx_L_kind (t0 := 1) hfl hC hS hG ⟨hI, hX19⟩ ml_L_90 ⟨(Nat.le_of_ble_eq_true rfl), (Nat.le_of_ble_eq_true rfl)⟩ hl.1 (Nat.le_of_ble_eq_true rfl) dL_law_34 ⟨show cells + 9 + 3 + 4 ≤ 847444 by omega, show slots + 56 + 29 + 40 ≤ 6559293 by omega⟩ (by decide) cd_kin5 (fun H locs hG hS => ?_)
  refine lv_ldc hx hb hC.o (hC.t _ ct_L_17) dL_law_37 ?_
  refine lv_icmp_ne (tgt := 82) hx hb dL_law_39 (by decide) (fun h => absurd (rfl) h) (fun _ => ?_)
  refine o_aload_n hx hb dL_law_42 hl rfl ?_
  refine lv_iconst (v := 0) hx hb dL_law_43 (by decide) ?_
  refine lv_iconst (v := 0) hx hb dL_law_44 (by decide) ?_
  refine lv_iconst (v := 0) hx hb dL_law_45 (by decide) ?_
  refine lv_iconst (v := 1) hx hb dL_law_46 (by decide) ?_
  refine kx_L_kind (t0 := 1) hfl hC hS hG ⟨hI, hX19⟩ ml_L_90 ⟨(Nat.le_of_ble_eq_true rfl), (Nat.le_of_ble_eq_true rfl)⟩ hl.1 (Nat.le_of_ble_eq_true rfl) dL_law_47 ⟨show cells + 9 + 3 + 4 + 4 ≤ 847444 by omega, show slots + 56 + 29 + 40 + 40 ≤ 6559293 by omega⟩ (by decide) cd_kin0 (fun H locs hG hS => ?_)
  refine lv_ldc hx hb hC.o (hC.t _ ct_L_17) dL_law_50 ?_
  refine lv_icmp_ne (tgt := 82) hx hb dL_law_52 (by decide) (fun h => absurd (rfl) h) (fun _ => ?_)
  refine o_aload_n hx hb dL_law_55 hl rfl ?_
  refine lv_iconst (v := 0) hx hb dL_law_56 (by decide) ?_
  refine lv_iconst (v := 1) hx hb dL_law_57 (by decide) ?_
  refine lv_iconst (v := 2) hx hb dL_law_58 (by decide) ?_
  refine lv_iconst (v := 1) hx hb dL_law_59 (by decide) ?_
  refine kx_L_kind (t0 := 1) hfl hC hS hG ⟨hI, hX19⟩ ml_L_90 ⟨(Nat.le_of_ble_eq_true rfl), (Nat.le_of_ble_eq_true rfl)⟩ hl.1 (Nat.le_of_ble_eq_true rfl) dL_law_60 ⟨show cells + 9 + 3 + 4 + 4 + 4 ≤ 847444 by omega, show slots + 56 + 29 + 40 + 40 + 40 ≤ 6559293 by omega⟩ (by decide) cd_kin2 (fun H locs hG hS => ?_)
  refine lv_ldc hx hb hC.o (hC.t _ ct_L_17) dL_law_63 ?_
  refine lv_icmp_ne (tgt := 82) hx hb dL_law_65 (by decide) (fun h => absurd (rfl) h) (fun _ => ?_)
  refine o_aload_n hx hb dL_law_68 hl rfl ?_
  refine lv_iconst (v := 0) hx hb dL_law_69 (by decide) ?_
  refine kx_L_belongs (t0 := 1) hfl hC hS hG ⟨hI, hX19⟩ ml_L_93 ⟨(Nat.le_of_ble_eq_true rfl), (Nat.le_of_ble_eq_true rfl)⟩ hl.1 (Nat.le_of_ble_eq_true rfl) dL_law_70 ⟨show cells + 9 + 3 + 4 + 4 + 4 + 1 ≤ 847444 by omega, show slots + 56 + 29 + 40 + 40 + 40 + 6 ≤ 6559293 by omega⟩ (by decide) (cd_ath00 e0) (fun H locs hG hS => ?_)
  refine lv_ldc hx hb hC.o (hC.t _ ct_L_17) dL_law_73 ?_
  refine lv_icmp_ne (tgt := 82) hx hb dL_law_75 (by decide) (fun h => absurd (rfl) h) (fun _ => ?_)
  refine lv_iconst (v := 1) hx hb dL_law_78 (by decide) ?_
  refine lv_goto (tgt := 83) hx hb dL_law_79 (by decide) ?_
  refine o_istore_n hx hb dL_law_83 hl (by decide) rfl (fun ls hl => ?_)
  refine W.widen (k := cells + 30) (n := slots + 250) (by omega) (by omega) ?_
  exact kk _ _ _ hG hS hl
set_option maxHeartbeats 4000000 in
set_option maxRecDepth 100000 in
theorem set2 {p : Program} {l : Launch} {e : Env} {s : State} {m : MethodId} {args : Array Value} {below : List Frame} {meth : Method} {c : Code} {Q : State → Prop} {D : va_G} {cy : Nat → ClassId} {sa : Nat → Nat} {de B : Nat} {T : St} {k : Nat → Nat} {th : Int32} {H : Heap} {locs : List Loc} {cells slots b L9 : Nat} {xs : Nat → Int32} {ls : Array Slot} {ad : Ad} {S : St} {n : Nat → Nat} (hfl : l.stackTraces = false) (hC : Cx p m c cL_law 29 s args RL D cy sa de B) (hX : va_X b L9 xs s s.heap) (hbl : b < s.heap.size) (hbA : ¬ AB B b) (hL9 : L9 ≤ 260) (hS : va_S (AB B) s.heap H locs) (hG : GW D B ad (Vw cy de ad S n T k th X0g) H) (hl : lo ls 29 [some (.ref b), some (.ref (ad 0 0 0)), some (.int 1), none, none, none, none, none, none, none, none, none, none, none, none, none, none, none, none, none, none, none, none, none, none, none, none, none, none]) (hroom : cells + 30 ≤ 847444 ∧ slots + 250 ≤ 6559293) (kk : ∀ (v : Nat), v < 4 → ∀ (ad : Ad) (H1 : Heap) (locs1 : List Loc) (ls1 : Array Slot), GW D B ad (WL cy de ad S n T k th (1 + v) 4 Z9) H1 → va_S (AB B) s.heap H1 locs1 → lo ls1 29 [some (.ref b), some (.ref (ad 0 0 0)), some (.int 1), some (.int (nI (1 + v))), some (.ref (ad 20 0 0)), some (.ref (ad 20 1 0)), some (.ref (ad 20 2 0)), some (.ref (ad 20 3 0)), some (.int (nI 0)), none, none, none, none, none, none, none, none, none, none, none, none, none, none, none, none, none, none, none, none] → W p l e room_1 s m args below meth c H1 locs1 (cells + 30) (slots + 250) Q (F0 m 116 ls1 [])) : W p l e room_1 s m args below meth c H locs cells slots Q (F0 m 84 ls []) := by
  have hx := hC.x
  have hb := hC.b
  refine lv_iconst (v := 1) hx hb dL_law_84 (by decide) ?_
  refine o_aload_n hx hb dL_law_85 hl rfl ?_
  refine lv_iconst (v := 0) hx hb dL_law_86 (by decide) ?_
  refine lv_iconst (v := 4) hx hb dL_law_87 (by decide) ?_
  refine k_L_in (0) 4 hC hS hX hbl hbA hL9 rfl rfl (by omega) (by omega) (by omega) ml_L_95 ⟨(Nat.le_of_ble_eq_true rfl), (Nat.le_of_ble_eq_true rfl)⟩ hl.1 (Nat.le_of_ble_eq_true rfl) dL_law_88 ⟨show cells + 0 ≤ 847444 by omega, show slots + 0 ≤ 6559293 by omega⟩ (fun v hv => ?_)
  refine lv_iadd hx hb dL_law_91 ?_
  refine bi_0 (x := nI (1 + v)) (nI_add 1 v).symm ?_
  refine o_istore_n hx hb dL_law_92 hl (by decide) rfl (fun ls hl => ?_)
  have hG : GW D B ad (WL cy de ad S n T k th (1 + v) 0 Z9) H := by
    show GW D B ad (Vw cy de ad S n T k th (XL cy (ad 21) (1 + v) 0 Z9)) H
    rw [XL_none]; exact hG
  refine o_iload_n hx hb dL_law_93 hl rfl ?_
  refine g_newa (N := 1 + v) hC hG hS (ty := .int) rfl (cA := cy 0) (hC.K.2 0 _ rfl).2 ac_80 (a0 := (1 + v, .inl (fun _ => 0))) rfl (nI_pos (by omega)) (nI_clamp (by omega)) (by show (1 + v) * 4 ≤ 536870912; omega) (show cells + 1 ≤ 847444 by omega) (show slots + (1 + v) ≤ 6559293 by omega) 20 0 0 (W_none (by decide)) dL_law_94 (fun q9 H hG hS => ?_)
  have hG : GW D B (up3 ad 20 0 0 q9) (WL cy de (up3 ad 20 0 0 q9) S n T k th (1 + v) 1 Z9) H := by
    rw [← WN_a (h := q9) (by decide) (fun _ => rfl)]; exact hG
  refine o_astore hx hb dL_law_96 hl (by decide) rfl (fun ls hl => ?_)
  have hl : lo ls 29 [some (.ref b), some (.ref ((up3 ad 20 0 0 q9) 0 0 0)), some (.int 1), some (.int (nI (1 + v))), some (.ref ((up3 ad 20 0 0 q9) 20 0 0)), none, none, none, none, none, none, none, none, none, none, none, none, none, none, none, none, none, none, none, none, none, none, none, none] := hl
  generalize up3 ad 20 0 0 q9 = ad at hG hl
  refine o_iload_n hx hb dL_law_98 hl rfl ?_
  refine g_newa (N := 1 + v) hC hG hS (ty := .int) rfl (cA := cy 0) (hC.K.2 0 _ rfl).2 ac_80 (a0 := (1 + v, .inl (fun _ => 0))) rfl (nI_pos (by omega)) (nI_clamp (by omega)) (by show (1 + v) * 4 ≤ 536870912; omega) (show cells + 1 + 1 ≤ 847444 by omega) (show slots + (1 + v) + (1 + v) ≤ 6559293 by omega) 20 1 0 (W_none (by decide)) dL_law_99 (fun q9 H hG hS => ?_)
  have hG : GW D B (up3 ad 20 1 0 q9) (WL cy de (up3 ad 20 1 0 q9) S n T k th (1 + v) 2 Z9) H := by
    rw [← WN_a (h := q9) (by decide) (fun _ => rfl)]; exact hG
  refine o_astore hx hb dL_law_101 hl (by decide) rfl (fun ls hl => ?_)
  have hl : lo ls 29 [some (.ref b), some (.ref ((up3 ad 20 1 0 q9) 0 0 0)), some (.int 1), some (.int (nI (1 + v))), some (.ref ((up3 ad 20 1 0 q9) 20 0 0)), some (.ref ((up3 ad 20 1 0 q9) 20 1 0)), none, none, none, none, none, none, none, none, none, none, none, none, none, none, none, none, none, none, none, none, none, none, none] := hl
  generalize up3 ad 20 1 0 q9 = ad at hG hl
  refine o_iload_n hx hb dL_law_103 hl rfl ?_
  refine g_newa (N := 1 + v) hC hG hS (ty := .int) rfl (cA := cy 0) (hC.K.2 0 _ rfl).2 ac_80 (a0 := (1 + v, .inl (fun _ => 0))) rfl (nI_pos (by omega)) (nI_clamp (by omega)) (by show (1 + v) * 4 ≤ 536870912; omega) (show cells + 1 + 1 + 1 ≤ 847444 by omega) (show slots + (1 + v) + (1 + v) + (1 + v) ≤ 6559293 by omega) 20 2 0 (W_none (by decide)) dL_law_104 (fun q9 H hG hS => ?_)
  have hG : GW D B (up3 ad 20 2 0 q9) (WL cy de (up3 ad 20 2 0 q9) S n T k th (1 + v) 3 Z9) H := by
    rw [← WN_a (h := q9) (by decide) (fun _ => rfl)]; exact hG
  refine o_astore hx hb dL_law_106 hl (by decide) rfl (fun ls hl => ?_)
  have hl : lo ls 29 [some (.ref b), some (.ref ((up3 ad 20 2 0 q9) 0 0 0)), some (.int 1), some (.int (nI (1 + v))), some (.ref ((up3 ad 20 2 0 q9) 20 0 0)), some (.ref ((up3 ad 20 2 0 q9) 20 1 0)), some (.ref ((up3 ad 20 2 0 q9) 20 2 0)), none, none, none, none, none, none, none, none, none, none, none, none, none, none, none, none, none, none, none, none, none, none] := hl
  generalize up3 ad 20 2 0 q9 = ad at hG hl
  refine o_iload_n hx hb dL_law_108 hl rfl ?_
  refine g_newa (N := 1 + v) hC hG hS (ty := .int) rfl (cA := cy 0) (hC.K.2 0 _ rfl).2 ac_80 (a0 := (1 + v, .inl (fun _ => 0))) rfl (nI_pos (by omega)) (nI_clamp (by omega)) (by show (1 + v) * 4 ≤ 536870912; omega) (show cells + 1 + 1 + 1 + 1 ≤ 847444 by omega) (show slots + (1 + v) + (1 + v) + (1 + v) + (1 + v) ≤ 6559293 by omega) 20 3 0 (W_none (by decide)) dL_law_109 (fun q9 H hG hS => ?_)
  have hG : GW D B (up3 ad 20 3 0 q9) (WL cy de (up3 ad 20 3 0 q9) S n T k th (1 + v) 4 Z9) H := by
    rw [← WN_a (h := q9) (by decide) (fun _ => rfl)]; exact hG
  refine o_astore hx hb dL_law_111 hl (by decide) rfl (fun ls hl => ?_)
  have hl : lo ls 29 [some (.ref b), some (.ref ((up3 ad 20 3 0 q9) 0 0 0)), some (.int 1), some (.int (nI (1 + v))), some (.ref ((up3 ad 20 3 0 q9) 20 0 0)), some (.ref ((up3 ad 20 3 0 q9) 20 1 0)), some (.ref ((up3 ad 20 3 0 q9) 20 2 0)), some (.ref ((up3 ad 20 3 0 q9) 20 3 0)), none, none, none, none, none, none, none, none, none, none, none, none, none, none, none, none, none, none, none, none, none] := hl
  generalize up3 ad 20 3 0 q9 = ad at hG hl
  refine lv_iconst (v := 0) hx hb dL_law_113 (by decide) ?_
  refine o_istore hx hb dL_law_114 hl (by decide) rfl (fun ls hl => ?_)
  refine W.widen (k := cells + 30) (n := slots + 250) (by omega) (by omega) ?_
  exact kk v hv ad _ _ _ hG hS hl
set_option maxHeartbeats 4000000 in
set_option maxRecDepth 100000 in
theorem set3 {p : Program} {l : Launch} {e : Env} {s : State} {m : MethodId} {args : Array Value} {below : List Frame} {meth : Method} {c : Code} {Q : State → Prop} {D : va_G} {cy : Nat → ClassId} {sa : Nat → Nat} {de B : Nat} {T : St} {k : Nat → Nat} {th : Int32} {b L9 C0 S0 K : Nat} {xs : Nat → Int32} (hfl : l.stackTraces = false) (hC : Cx p m c cL_law 29 s args RL D cy sa de B) (hX : va_X b L9 xs s s.heap) (hbl : b < s.heap.size) (hbA : ¬ AB B b) (hL9 : L9 ≤ 260) (hK : K ≤ 4) (hroom : C0 + 30 ≤ 847444 ∧ S0 + 250 ≤ 6559293) (kend : ∀ (ad : Ad) (S : St) (n : Nat → Nat) (L : St) (H1 : Heap) (locs1 : List Loc) (ls1 : Array Slot), Inv S n → KK S n L K → GW D B ad (WL cy de ad S n T k th K 4 L) H1 → va_S (AB B) s.heap H1 locs1 → lo ls1 29 [some (.ref b), some (.ref (ad 0 0 0)), some (.int 1), some (.int (nI K)), some (.ref (ad 20 0 0)), some (.ref (ad 20 1 0)), some (.ref (ad 20 2 0)), some (.ref (ad 20 3 0)), none, none, none, none, none, none, none, none, none, none, none, none, none, none, none, none, none, none, none, none, none] → W p l e room_1 s m args below meth c H1 locs1 (C0 + 30) (S0 + 250) Q (F0 m 236 ls1 [])) : ∀ (r kq : Nat), kq + r = K → ∀ (ad : Ad) (S : St) (n : Nat → Nat) (L : St) (H : Heap) (locs : List Loc) (ls : Array Slot), Inv S n → KK S n L kq → GW D B ad (WL cy de ad S n T k th K 4 L) H → va_S (AB B) s.heap H locs → lo ls 29 [some (.ref b), some (.ref (ad 0 0 0)), some (.int 1), some (.int (nI K)), some (.ref (ad 20 0 0)), some (.ref (ad 20 1 0)), some (.ref (ad 20 2 0)), some (.ref (ad 20 3 0)), some (.int (nI kq)), none, none, none, none, none, none, none, none, none, none, none, none, none, none, none, none, none, none, none, none] → W p l e room_1 s m args below meth c H locs (C0 + 4 * kq) (S0 + 40 * kq) Q (F0 m 116 ls []) := by
  have hx := hC.x
  have hb := hC.b
  intro r
  induction r with
  | zero =>
    intro kq hkq ad S n L H locs ls hI hKK hG hS hl
    obtain rfl : kq = K := by omega
    refine o_iload hx hb dL_law_116 hl rfl ?_
    refine o_iload_n hx hb dL_law_118 hl rfl ?_
    refine n_icmp_ge (tgt := 236) hx hb kq kq rfl rfl (by omega) (by omega) dL_law_119 (by decide) (fun _ => ?_) (fun h => absurd h (by omega))
    refine W.widen (k := C0 + 30) (n := S0 + 250) (by omega) (by omega) ?_
    exact kend ad S n L _ _ _ hI hKK hG hS (lo_none (i := 8) hl)
  | succ r ih =>
    intro kq hkq ad S n L H locs ls hI hKK hG hS hl
    have e2 : n 2 = kq := hKK.1.2.2
    refine o_iload hx hb dL_law_116 hl rfl ?_
    refine o_iload_n hx hb dL_law_118 hl rfl ?_
    refine n_icmp_ge (tgt := 236) hx hb kq K rfl rfl (by omega) (by omega) dL_law_119 (by decide) (fun h => absurd h (by omega)) (fun _ => ?_)
    refine o_aload hx hb dL_law_122 hl rfl ?_
    refine o_iload hx hb dL_law_124 hl rfl ?_
    refine o_aload_n hx hb dL_law_126 hl rfl ?_
    refine lv_iconst (v := 1) hx hb dL_law_127 (by decide) ?_
    refine o_iload hx hb dL_law_128 hl rfl ?_
    refine lv_iadd hx hb dL_law_130 ?_
    refine lv_iconst (v := 5) hx hb dL_law_131 (by decide) ?_
    refine k_L_in (1 + kq) 5 hC hS hX hbl hbA hL9 (nI_add 1 kq) rfl (by omega) (by omega) (by omega) ml_L_95 ⟨(Nat.le_of_ble_eq_true rfl), (Nat.le_of_ble_eq_true rfl)⟩ hl.1 (Nat.le_of_ble_eq_true rfl) dL_law_132 ⟨show C0 + 4 * kq + 0 ≤ 847444 by omega, show S0 + 40 * kq + 0 ≤ 6559293 by omega⟩ (fun a1 ha1 => ?_)
    refine g_iast hC hG hS (V_a (i := 0) (by decide) (by decide)) (kq) rfl (by omega) (by omega) (P_a (by decide) (by decide)) dL_law_135 (fun H locs hG hS => ?_)
    refine o_aload hx hb dL_law_136 hl rfl ?_
    refine o_iload hx hb dL_law_138 hl rfl ?_
    refine lv_iconst (v := 1) hx hb dL_law_140 (by decide) ?_
    refine o_aload_n hx hb dL_law_141 hl rfl ?_
    refine lv_bipush (v := 10) hx hb dL_law_142 (by decide) ?_
    refine o_iload hx hb dL_law_144 hl rfl ?_
    refine lv_iadd hx hb dL_law_146 ?_
    refine lv_bipush (v := 40) hx hb dL_law_147 (by decide) ?_
    refine k_L_in (10 + kq) 40 hC hS hX hbl hbA hL9 (nI_add 10 kq) rfl (by omega) (by omega) (by omega) ml_L_95 ⟨(Nat.le_of_ble_eq_true rfl), (Nat.le_of_ble_eq_true rfl)⟩ hl.1 (Nat.le_of_ble_eq_true rfl) dL_law_149 ⟨show C0 + 4 * kq + 0 ≤ 847444 by omega, show S0 + 40 * kq + 0 ≤ 6559293 by omega⟩ (fun a2 ha2 => ?_)
    refine lv_iadd hx hb dL_law_152 ?_
    refine bi_0 (x := nI (1 + a2)) (nI_add 1 a2).symm ?_
    refine g_iast hC hG hS (V_a (i := 1) (by decide) (by decide)) (kq) rfl (by omega) (by omega) (P_a (by decide) (by decide)) dL_law_153 (fun H locs hG hS => ?_)
    refine o_aload hx hb dL_law_154 hl rfl ?_
    refine o_iload hx hb dL_law_156 hl rfl ?_
    refine o_aload_n hx hb dL_law_158 hl rfl ?_
    refine lv_bipush (v := 20) hx hb dL_law_159 (by decide) ?_
    refine o_iload hx hb dL_law_161 hl rfl ?_
    refine lv_iadd hx hb dL_law_163 ?_
    refine lv_bipush (v := 120) hx hb dL_law_164 (by decide) ?_
    refine k_L_in (20 + kq) 120 hC hS hX hbl hbA hL9 (nI_add 20 kq) rfl (by omega) (by omega) (by omega) ml_L_95 ⟨(Nat.le_of_ble_eq_true rfl), (Nat.le_of_ble_eq_true rfl)⟩ hl.1 (Nat.le_of_ble_eq_true rfl) dL_law_166 ⟨show C0 + 4 * kq + 0 ≤ 847444 by omega, show S0 + 40 * kq + 0 ≤ 6559293 by omega⟩ (fun a3 ha3 => ?_)
    refine g_iast hC hG hS (V_a (i := 2) (by decide) (by decide)) (kq) rfl (by omega) (by omega) (P_a (by decide) (by decide)) dL_law_169 (fun H locs hG hS => ?_)
    refine o_aload hx hb dL_law_170 hl rfl ?_
    refine o_iload hx hb dL_law_172 hl rfl ?_
    refine o_aload hx hb dL_law_174 hl rfl ?_
    refine o_iload hx hb dL_law_176 hl rfl ?_
    refine g_iald hC hG (V_a (i := 2) (by decide) (by decide)) (kq) rfl (by omega) (by omega) dL_law_178 ?_
    refine bi_0 (x := nI a3) up3_self.symm ?_
    refine o_aload_n hx hb dL_law_179 hl rfl ?_
    refine lv_bipush (v := 30) hx hb dL_law_180 (by decide) ?_
    refine o_iload hx hb dL_law_182 hl rfl ?_
    refine lv_iadd hx hb dL_law_184 ?_
    refine lv_sipush (v := 381) hx hb dL_law_185 (by decide) ?_
    refine k_L_in (30 + kq) 381 hC hS hX hbl hbA hL9 (nI_add 30 kq) rfl (by omega) (by omega) (by omega) ml_L_95 ⟨(Nat.le_of_ble_eq_true rfl), (Nat.le_of_ble_eq_true rfl)⟩ hl.1 (Nat.le_of_ble_eq_true rfl) dL_law_188 ⟨show C0 + 4 * kq + 0 ≤ 847444 by omega, show S0 + 40 * kq + 0 ≤ 6559293 by omega⟩ (fun a4 ha4 => ?_)
    refine lv_iadd hx hb dL_law_191 ?_
    refine bi_0 (x := nI (a3 + a4)) (nI_add a3 a4).symm ?_
    refine g_iast hC hG hS (V_a (i := 3) (by decide) (by decide)) (kq) rfl (by omega) (by omega) (P_a (by decide) (by decide)) dL_law_192 (fun H locs hG hS => ?_)
    have hG : GW D B ad (WL cy de ad S n T k th K 4 (kL L kq (nI a1) (nI (1 + a2)) (nI a3) (nI (a3 + a4)))) H := hG
    refine o_iload_n hx hb dL_law_193 hl rfl ?_
    refine o_aload_n hx hb dL_law_194 hl rfl ?_
    refine o_aload hx hb dL_law_195 hl rfl ?_
    refine o_iload hx hb dL_law_197 hl rfl ?_
    refine g_iald hC hG (V_a (i := 0) (by decide) (by decide)) (kq) rfl (by omega) (by omega) dL_law_199 ?_
    refine bi_0 (x := nI a1) kL_0.symm ?_
    refine o_aload hx hb dL_law_200 hl rfl ?_
    refine o_iload hx hb dL_law_202 hl rfl ?_
    refine g_iald hC hG (V_a (i := 1) (by decide) (by decide)) (kq) rfl (by omega) (by omega) dL_law_204 ?_
    refine bi_0 (x := nI (1 + a2)) kL_1.symm ?_
    refine o_aload hx hb dL_law_205 hl rfl ?_
    refine o_iload hx hb dL_law_207 hl rfl ?_
    refine g_iald hC hG (V_a (i := 2) (by decide) (by decide)) (kq) rfl (by omega) (by omega) dL_law_209 ?_
    refine bi_0 (x := nI a3) kL_2.symm ?_
    refine o_aload hx hb dL_law_210 hl rfl ?_
    refine o_iload hx hb dL_law_212 hl rfl ?_
    refine g_iald hC hG (V_a (i := 3) (by decide) (by decide)) (kq) rfl (by omega) (by omega) dL_law_214 ?_
    refine bi_0 (x := nI (a3 + a4)) kL_3.symm ?_
    have hcd : cd_kind n (nI a1) (nI (1 + a2)) (nI a3) (nI (a3 + a4)) = 0 := cd_kind0 ha1 ha2 ha3 ha4 (by omega)
    refine kv_L_kind hfl hC hS hG ⟨hI, XL_19⟩ ml_L_90 ⟨(Nat.le_of_ble_eq_true rfl), (Nat.le_of_ble_eq_true rfl)⟩ hl.1 (Nat.le_of_ble_eq_true rfl) dL_law_215 ⟨show C0 + 4 * kq + 4 ≤ 847444 by omega, show S0 + 40 * kq + 40 ≤ 6559293 by omega⟩ hcd (fun ad9 H locs hA hG hS => ?_)
    have hI2 := inv_kind hI hcd
    have hG : GW D B ad9 (WL cy de ad9 (kiS S kq (nI a1) (nI (1 + a2)) (nI a3) (nI (a3 + a4))) (nUp n 2) T k th K 4 (kL L kq (nI a1) (nI (1 + a2)) (nI a3) (nI (a3 + a4)))) H := by
      show GW D B ad9 (Vw cy de ad9 (kiS S kq (nI a1) (nI (1 + a2)) (nI a3) (nI (a3 + a4))) (nUp n 2) T k th (XL cy (ad9 21) K 4 (kL L kq (nI a1) (nI (1 + a2)) (nI a3) (nI (a3 + a4))))) H
      rw [hA 21 (Or.inr (by decide)), ← e2]; rw [e2]; rw [e2] at hG; exact hG
    rw [e2] at hI2
    have hl : lo ls 29 [some (.ref b), some (.ref (ad9 0 0 0)), some (.int 1), some (.int (nI K)), some (.ref (ad9 20 0 0)), some (.ref (ad9 20 1 0)), some (.ref (ad9 20 2 0)), some (.ref (ad9 20 3 0)), some (.int (nI kq)), none, none, none, none, none, none, none, none, none, none, none, none, none, none, none, none, none, none, none, none] := by rw [hA 0 (Or.inl rfl), hA 20 (Or.inr (by decide))]; exact hl
    refine bi_0 (x := nI kq) (by rw [e2]) ?_
    refine o_iload hx hb dL_law_218 hl rfl ?_
    refine lv_icmp_ne (tgt := 227) hx hb dL_law_220 (by decide) (fun h => absurd (rfl) h) (fun _ => ?_)
    refine lv_iconst (v := 1) hx hb dL_law_223 (by decide) ?_
    refine lv_goto (tgt := 228) hx hb dL_law_224 (by decide) ?_
    refine lv_iand hx hb dL_law_228 ?_
    refine bi_0 (x := 1) (by decide) ?_
    refine o_istore_n hx hb dL_law_229 hl (by decide) rfl (fun ls hl => ?_)
    refine o_iinc1 hx hb dL_law_230 hl rfl (by decide) rfl (fun ls hl => ?_)
    refine lv_goto (tgt := 116) hx hb dL_law_233 (by decide) ?_
    refine W.widen (k := C0 + 4 * (kq + 1)) (n := S0 + 40 * (kq + 1)) (by omega) (by omega) ?_
    exact ih (kq + 1) (by omega) ad9 _ _ _ _ _ _ hI2 (KK_s hKK) hG hS hl
set_option maxHeartbeats 4000000 in
set_option maxRecDepth 100000 in
theorem set4 {p : Program} {l : Launch} {e : Env} {s : State} {m : MethodId} {args : Array Value} {below : List Frame} {meth : Method} {c : Code} {Q : State → Prop} {D : va_G} {cy : Nat → ClassId} {sa : Nat → Nat} {de B : Nat} {T : St} {k : Nat → Nat} {th : Int32} {H : Heap} {locs : List Loc} {cells slots b K : Nat} {ls : Array Slot} {ad : Ad} {S : St} {n : Nat → Nat} {L : St} (hfl : l.stackTraces = false) (hC : Cx p m c cL_law 29 s args RL D cy sa de B) (hAR : va_AR .int s) (hL : ∀ i, 4 ≤ i → ∀ x y, L i x y = 0) (hS : va_S (AB B) s.heap H locs) (hG : GW D B ad (WL cy de ad S n T k th K 4 L) H) (hl : lo ls 29 [some (.ref b), some (.ref (ad 0 0 0)), some (.int 1), some (.int (nI K)), some (.ref (ad 20 0 0)), some (.ref (ad 20 1 0)), some (.ref (ad 20 2 0)), some (.ref (ad 20 3 0)), none, none, none, none, none, none, none, none, none, none, none, none, none, none, none, none, none, none, none, none, none]) (hroom : cells + 30 ≤ 847444 ∧ slots + 250 ≤ 6559293) (kk : ∀ (ad : Ad) (H1 : Heap) (locs1 : List Loc) (ls1 : Array Slot), GW D B ad (WL cy de ad S n T k th K 10 L) H1 → va_S (AB B) s.heap H1 locs1 → lo ls1 29 [some (.ref b), some (.ref (ad 0 0 0)), some (.int 1), some (.int (nI K)), some (.ref (ad 20 0 0)), some (.ref (ad 20 1 0)), some (.ref (ad 20 2 0)), some (.ref (ad 20 3 0)), some (.ref (ad 20 4 0)), some (.ref (ad 20 5 0)), some (.ref (ad 20 6 0)), some (.ref (ad 20 7 0)), some (.ref (ad 20 8 0)), some (.ref (ad 20 9 0)), some (.int 0), some (.int (nI 0)), none, none, none, none, none, none, none, none, none, none, none, none, none] → W p l e room_1 s m args below meth c H1 locs1 (cells + 30) (slots + 250) Q (F0 m 281 ls1 [])) : W p l e room_1 s m args below meth c H locs cells slots Q (F0 m 236 ls []) := by
  have hx := hC.x
  have hb := hC.b
  refine lv_iconst (v := 3) hx hb dL_law_236 (by decide) ?_
  refine lv_iconst (v := 5) hx hb dL_law_237 (by decide) ?_
  refine g_mnew (j := 4) (N := 3) (K := 5) hC hG hS cl_L_99 hAR ac_80 (by decide) (by decide) rfl rfl (by decide) (by decide) (by decide) (show cells + (1 + 3) ≤ 847444 by omega) (show slots + (3 + 3 * 5) ≤ 6559293 by omega) (W_none (by decide)) (fun _ => W_noner (by decide)) dL_law_238 (fun q9 H hq9 hG hS => ?_)
  have hG : GW D B (adR ad 4 q9) (WL cy de (adR ad 4 q9) S n T k th K 5 L) H := by
    rw [← WN_r (h := q9) (by decide) (by decide) (hL 4 (by decide))]; exact hG
  refine o_astore hx hb dL_law_242 hl (by decide) rfl (fun ls hl => ?_)
  have hl : lo ls 29 [some (.ref b), some (.ref ((adR ad 4 q9) 0 0 0)), some (.int 1), some (.int (nI K)), some (.ref ((adR ad 4 q9) 20 0 0)), some (.ref ((adR ad 4 q9) 20 1 0)), some (.ref ((adR ad 4 q9) 20 2 0)), some (.ref ((adR ad 4 q9) 20 3 0)), some (.ref ((adR ad 4 q9) 20 4 0)), none, none, none, none, none, none, none, none, none, none, none, none, none, none, none, none, none, none, none, none] := hl
  generalize adR ad 4 q9 = ad at hG hl
  refine lv_iconst (v := 3) hx hb dL_law_244 (by decide) ?_
  refine lv_iconst (v := 5) hx hb dL_law_245 (by decide) ?_
  refine g_mnew (j := 5) (N := 3) (K := 5) hC hG hS cl_L_99 hAR ac_80 (by decide) (by decide) rfl rfl (by decide) (by decide) (by decide) (show cells + 1 + 3 + (1 + 3) ≤ 847444 by omega) (show slots + 3 + 3 * 5 + (3 + 3 * 5) ≤ 6559293 by omega) (W_none (by decide)) (fun _ => W_noner (by decide)) dL_law_246 (fun q9 H hq9 hG hS => ?_)
  have hG : GW D B (adR ad 5 q9) (WL cy de (adR ad 5 q9) S n T k th K 6 L) H := by
    rw [← WN_r (h := q9) (by decide) (by decide) (hL 5 (by decide))]; exact hG
  refine o_astore hx hb dL_law_250 hl (by decide) rfl (fun ls hl => ?_)
  have hl : lo ls 29 [some (.ref b), some (.ref ((adR ad 5 q9) 0 0 0)), some (.int 1), some (.int (nI K)), some (.ref ((adR ad 5 q9) 20 0 0)), some (.ref ((adR ad 5 q9) 20 1 0)), some (.ref ((adR ad 5 q9) 20 2 0)), some (.ref ((adR ad 5 q9) 20 3 0)), some (.ref ((adR ad 5 q9) 20 4 0)), some (.ref ((adR ad 5 q9) 20 5 0)), none, none, none, none, none, none, none, none, none, none, none, none, none, none, none, none, none, none, none] := hl
  generalize adR ad 5 q9 = ad at hG hl
  refine lv_iconst (v := 3) hx hb dL_law_252 (by decide) ?_
  refine lv_iconst (v := 5) hx hb dL_law_253 (by decide) ?_
  refine g_mnew (j := 6) (N := 3) (K := 5) hC hG hS cl_L_99 hAR ac_80 (by decide) (by decide) rfl rfl (by decide) (by decide) (by decide) (show cells + 1 + 3 + 1 + 3 + (1 + 3) ≤ 847444 by omega) (show slots + 3 + 3 * 5 + 3 + 3 * 5 + (3 + 3 * 5) ≤ 6559293 by omega) (W_none (by decide)) (fun _ => W_noner (by decide)) dL_law_254 (fun q9 H hq9 hG hS => ?_)
  have hG : GW D B (adR ad 6 q9) (WL cy de (adR ad 6 q9) S n T k th K 7 L) H := by
    rw [← WN_r (h := q9) (by decide) (by decide) (hL 6 (by decide))]; exact hG
  refine o_astore hx hb dL_law_258 hl (by decide) rfl (fun ls hl => ?_)
  have hl : lo ls 29 [some (.ref b), some (.ref ((adR ad 6 q9) 0 0 0)), some (.int 1), some (.int (nI K)), some (.ref ((adR ad 6 q9) 20 0 0)), some (.ref ((adR ad 6 q9) 20 1 0)), some (.ref ((adR ad 6 q9) 20 2 0)), some (.ref ((adR ad 6 q9) 20 3 0)), some (.ref ((adR ad 6 q9) 20 4 0)), some (.ref ((adR ad 6 q9) 20 5 0)), some (.ref ((adR ad 6 q9) 20 6 0)), none, none, none, none, none, none, none, none, none, none, none, none, none, none, none, none, none, none] := hl
  generalize adR ad 6 q9 = ad at hG hl
  refine lv_iconst (v := 3) hx hb dL_law_260 (by decide) ?_
  refine g_newa (N := 3) hC hG hS (ty := .int) rfl (cA := cy 0) (hC.K.2 0 _ rfl).2 ac_80 (a0 := (3, .inl (fun _ => 0))) rfl (by decide) rfl (by decide) (show cells + 1 + 3 + 1 + 3 + 1 + 3 + 1 ≤ 847444 by omega) (show slots + 3 + 3 * 5 + 3 + 3 * 5 + 3 + 3 * 5 + 3 ≤ 6559293 by omega) 20 7 0 (W_none (by decide)) dL_law_261 (fun q9 H hG hS => ?_)
  have hG : GW D B (up3 ad 20 7 0 q9) (WL cy de (up3 ad 20 7 0 q9) S n T k th K 8 L) H := by
    rw [← WN_c (h := q9) (by decide) (by decide) (fun x => hL 7 (by decide) x 0)]; exact hG
  refine o_astore hx hb dL_law_263 hl (by decide) rfl (fun ls hl => ?_)
  have hl : lo ls 29 [some (.ref b), some (.ref ((up3 ad 20 7 0 q9) 0 0 0)), some (.int 1), some (.int (nI K)), some (.ref ((up3 ad 20 7 0 q9) 20 0 0)), some (.ref ((up3 ad 20 7 0 q9) 20 1 0)), some (.ref ((up3 ad 20 7 0 q9) 20 2 0)), some (.ref ((up3 ad 20 7 0 q9) 20 3 0)), some (.ref ((up3 ad 20 7 0 q9) 20 4 0)), some (.ref ((up3 ad 20 7 0 q9) 20 5 0)), some (.ref ((up3 ad 20 7 0 q9) 20 6 0)), some (.ref ((up3 ad 20 7 0 q9) 20 7 0)), none, none, none, none, none, none, none, none, none, none, none, none, none, none, none, none, none] := hl
  generalize up3 ad 20 7 0 q9 = ad at hG hl
  refine lv_iconst (v := 3) hx hb dL_law_265 (by decide) ?_
  refine g_newa (N := 3) hC hG hS (ty := .int) rfl (cA := cy 0) (hC.K.2 0 _ rfl).2 ac_80 (a0 := (3, .inl (fun _ => 0))) rfl (by decide) rfl (by decide) (show cells + 1 + 3 + 1 + 3 + 1 + 3 + 1 + 1 ≤ 847444 by omega) (show slots + 3 + 3 * 5 + 3 + 3 * 5 + 3 + 3 * 5 + 3 + 3 ≤ 6559293 by omega) 20 8 0 (W_none (by decide)) dL_law_266 (fun q9 H hG hS => ?_)
  have hG : GW D B (up3 ad 20 8 0 q9) (WL cy de (up3 ad 20 8 0 q9) S n T k th K 9 L) H := by
    rw [← WN_c (h := q9) (by decide) (by decide) (fun x => hL 8 (by decide) x 0)]; exact hG
  refine o_astore hx hb dL_law_268 hl (by decide) rfl (fun ls hl => ?_)
  have hl : lo ls 29 [some (.ref b), some (.ref ((up3 ad 20 8 0 q9) 0 0 0)), some (.int 1), some (.int (nI K)), some (.ref ((up3 ad 20 8 0 q9) 20 0 0)), some (.ref ((up3 ad 20 8 0 q9) 20 1 0)), some (.ref ((up3 ad 20 8 0 q9) 20 2 0)), some (.ref ((up3 ad 20 8 0 q9) 20 3 0)), some (.ref ((up3 ad 20 8 0 q9) 20 4 0)), some (.ref ((up3 ad 20 8 0 q9) 20 5 0)), some (.ref ((up3 ad 20 8 0 q9) 20 6 0)), some (.ref ((up3 ad 20 8 0 q9) 20 7 0)), some (.ref ((up3 ad 20 8 0 q9) 20 8 0)), none, none, none, none, none, none, none, none, none, none, none, none, none, none, none, none] := hl
  generalize up3 ad 20 8 0 q9 = ad at hG hl
  refine lv_iconst (v := 3) hx hb dL_law_270 (by decide) ?_
  refine g_newa (N := 3) hC hG hS (ty := .int) rfl (cA := cy 0) (hC.K.2 0 _ rfl).2 ac_80 (a0 := (3, .inl (fun _ => 0))) rfl (by decide) rfl (by decide) (show cells + 1 + 3 + 1 + 3 + 1 + 3 + 1 + 1 + 1 ≤ 847444 by omega) (show slots + 3 + 3 * 5 + 3 + 3 * 5 + 3 + 3 * 5 + 3 + 3 + 3 ≤ 6559293 by omega) 20 9 0 (W_none (by decide)) dL_law_271 (fun q9 H hG hS => ?_)
  have hG : GW D B (up3 ad 20 9 0 q9) (WL cy de (up3 ad 20 9 0 q9) S n T k th K 10 L) H := by
    rw [← WN_c (h := q9) (by decide) (by decide) (fun x => hL 9 (by decide) x 0)]; exact hG
  refine o_astore hx hb dL_law_273 hl (by decide) rfl (fun ls hl => ?_)
  have hl : lo ls 29 [some (.ref b), some (.ref ((up3 ad 20 9 0 q9) 0 0 0)), some (.int 1), some (.int (nI K)), some (.ref ((up3 ad 20 9 0 q9) 20 0 0)), some (.ref ((up3 ad 20 9 0 q9) 20 1 0)), some (.ref ((up3 ad 20 9 0 q9) 20 2 0)), some (.ref ((up3 ad 20 9 0 q9) 20 3 0)), some (.ref ((up3 ad 20 9 0 q9) 20 4 0)), some (.ref ((up3 ad 20 9 0 q9) 20 5 0)), some (.ref ((up3 ad 20 9 0 q9) 20 6 0)), some (.ref ((up3 ad 20 9 0 q9) 20 7 0)), some (.ref ((up3 ad 20 9 0 q9) 20 8 0)), some (.ref ((up3 ad 20 9 0 q9) 20 9 0)), none, none, none, none, none, none, none, none, none, none, none, none, none, none, none] := hl
  generalize up3 ad 20 9 0 q9 = ad at hG hl
  refine lv_iconst (v := 0) hx hb dL_law_275 (by decide) ?_
  refine o_istore hx hb dL_law_276 hl (by decide) rfl (fun ls hl => ?_)
  refine lv_iconst (v := 0) hx hb dL_law_278 (by decide) ?_
  refine o_istore hx hb dL_law_279 hl (by decide) rfl (fun ls hl => ?_)
  refine W.widen (k := cells + 30) (n := slots + 250) (by omega) (by omega) ?_
  exact kk ad _ _ _ hG hS hl
