set_option maxHeartbeats 4000000 in
set_option maxRecDepth 100000 in
theorem c_X6_dropOpenEntries (l : Launch) {D : va_G} {cy : Nat → ClassId} {sa : Nat → Nat} {de B : Nat} {ad : Ad} {S : St} {n : Nat → Nat} {T : St} {k : Nat → Nat} {th : Int32} {X : Rl} {i : Nat}  : Met l yX6_dropOpenEntries (Cond.code yX6_dropOpenEntries cX6_dropOpenEntries 4 (Option.none : Option Jvm.ClassFile.FieldType) :: G0) ({ frames := 3, cells := 0, slots := 0, locals := 64 } : Room) (va_Pc [.ref (ad 0 0 0), .ref (ad 3 i 0)] (PW D cy sa de B ad (Vw cy de ad S n T k th X) (i < n 4 ∧ WF S n))) (oV B (fun H => GW D B ad (Vw cy de ad (dropS S i (n 3)) n T k th X) H)) 0 0 (AB B) := by
  refine E_met (own := RX6) rfl rfl (Nat.le_of_ble_eq_true rfl) ?_
  intro p e s m below meth c hC hr hlk hnm hG h0 ls hl
  have hx := hC.x
  have hb := hC.b
  have hS : va_S (AB B) s.heap s.heap [] := va_S.rf
  have hl : lo ls 4 [some (.ref (ad 0 0 0)), some (.ref (ad 3 i 0)), none, none] := lo_of hl
  obtain ⟨hi, hW⟩ := h0
  have hW9 := hW
  obtain ⟨hB0, hB1, hB2, hB3, hB4, hB5, hB6, hB7, hKI, hEI, hKY⟩ := hW9
  
  refine lv_iconst (v := 0) hx hb dX6_dropOpenEntries_0 (by decide) ?_
  refine o_istore_n hx hb dX6_dropOpenEntries_1 hl (by decide) rfl (fun ls hl => ?_)
  have loop2 : ∀ (q9 : Nat) (y : Nat), y ≤ n 3 ∧ n 3 < y + q9 → ∀ (H : Heap) (locs : List Loc), GW D B ad (Vw cy de ad (dropS S i y) n T k th X) H → va_S (AB B) s.heap H locs → ∀ ls : Array Slot, lo ls 4 [some (.ref (ad 0 0 0)), some (.ref (ad 3 i 0)), some (.int (nI y)), none] → W p l e ({ frames := 3, cells := 0, slots := 0, locals := 64 } : Room) s m [.ref (ad 0 0 0), .ref (ad 3 i 0)].toArray below meth c H locs 0 0 (MQ below (oV B (fun H => GW D B ad (Vw cy de ad (dropS S i (n 3)) n T k th X) H)) [.ref (ad 0 0 0), .ref (ad 3 i 0)].toArray s 0 0 (AB B)) (F0 m 2 ls []) := by
    intro q9
    induction q9 with
    | zero => intro y hq9; exact absurd hq9 (by omega)
    | succ q9 ih2 =>
      intro y hq9  H locs hG hS ls hl
      have z20 : dropS S i y 20 = S 20 := dropS_o y (by decide) (by decide)
      have z19 : dropS S i y 19 = S 19 := dropS_o y (by decide) (by decide)
      refine o_iload_n hx hb dX6_dropOpenEntries_2 hl rfl ?_
      refine o_aload_n hx hb dX6_dropOpenEntries_3 hl rfl ?_
      refine g_get hC hG us_X6 rfl 3 (by decide) fl_X6_22 V_games rfl dX6_dropOpenEntries_4 ?_
      refine k_Jx4a65c_size_8abf5 (q := 3) hC hS hG (by omega) ml_X6_33 ⟨Nat.le_of_ble_eq_true rfl, Nat.le_of_ble_eq_true rfl⟩ hl.1 (Nat.le_of_ble_eq_true rfl) dX6_dropOpenEntries_7 ⟨Nat.le_of_ble_eq_true rfl, Nat.le_of_ble_eq_true rfl⟩ ?_
      refine n_icmp_ge (tgt := 60) hx hb y (n 3) rfl rfl (by omega) (by omega) dX6_dropOpenEntries_10 (by decide) (fun h10 => ?_) (fun h10 => ?_)
      · skip
        exact R_V hC hS hr hlk ((show y = n 3 by omega) ▸ hG) (Nat.le_of_ble_eq_true rfl) (Nat.le_of_ble_eq_true rfl) dX6_dropOpenEntries_60
      · exact absurd h10 (by omega)
  exact loop2 (n 3 + 1) 0 (by omega) s.heap [] hG hS ls hl
theorem k_X6_dropOpenEntries {p : Program} {l : Launch} {e : Env} {R : Room} {s : State} {m : MethodId} {args : Array Value} {below : List Frame} {meth : Method} {c : Code} {H : Heap} {locs : List Loc} {cells slots : Nat} {Q : State → Prop} {cc : ByteArray} {pc nL : Nat} {ls : Array Slot} {rest : List Value} {own : String} {D : va_G} {cy : Nat → ClassId} {sa : Nat → Nat} {de B : Nat} {ad : Ad} {S : St} {n : Nat → Nat} {T : St} {k : Nat → Nat} {th : Int32} {X : Rl} {i : Nat}  (hC : Cx p m c cc nL s args own D cy sa de B) (hS : va_S (AB B) s.heap H locs) (hG : GW D B ad (Vw cy de ad S n T k th X) H) (h0 : i < n 4 ∧ WF S n)  {idx : Nat} (wl : Cond.methodLink own idx yX6_dropOpenEntries ∈ G0) (hR : 3 + 1 ≤ R.frames ∧ 8 + (4 + 11) + 64 ≤ R.locals) (hsz : ls.size = nL) (hst : (rest.map fun v => v.category).sum ≤ 8) (hdg : decode cc pc = .ok (.invokevirtual idx, 3)) (hcs : cells + 0 ≤ R.cells ∧ slots + 0 ≤ R.slots) (kk : ∀ (H1 : Heap) (locs1 : List Loc), ((fun H => GW D B ad (Vw cy de ad (dropS S i (n 3)) n T k th X) H)) H1 → va_S (AB B) s.heap H1 locs1 → W p l e R s m args below meth c H1 locs1 cells slots Q (F0 m (pc + 3) ls (rest))) : W p l e R s m args below meth c H locs cells slots Q (F0 m pc ls (.ref (ad 3 i 0) :: .ref (ad 0 0 0) :: rest)) :=
  va_callv (rV hC hS hG h0 (As := [.ref (ad 3 i 0)]) (c_X6_dropOpenEntries l) ⟨rfl, rfl⟩ wl im_X6_dropOpenEntries sl_X6_X6_dropOpenEntries in_X6 cd_X6_dropOpenEntries (n := 1) (by decide +kernel) hR (recv hC hG (q := (RX6, TX6, 6)) rfl V_games) rfl hsz hst rfl hdg hcs) hS (fun _ _ h => h) (fun _ h => h) (fun u t H1 locs1 ht _ _ hB _ _ hS1 => kk H1 locs1 (by dsimp only at hB; rw [ht] at hB; exact hB) hS1)
set_option maxHeartbeats 4000000 in
set_option maxRecDepth 100000 in
theorem c_X6_settle (l : Launch) {D : va_G} {cy : Nat → ClassId} {sa : Nat → Nat} {de B : Nat} {ad : Ad} {S : St} {n : Nat → Nat} {T : St} {k : Nat → Nat} {th : Int32} {X : Rl} {i : Nat} {kk st : Int32} {o : Option Nat} (ho : kro ad kk = o) : Met l yX6_settle (Cond.code yX6_settle cX6_settle 4 (Option.none : Option Jvm.ClassFile.FieldType) :: G0) ({ frames := 4, cells := 0, slots := 0, locals := 87 } : Room) (va_Pc [.ref (ad 0 0 0), .ref (ad 3 i 0), va_rf o, .int st] (PW D cy sa de B ad (Vw cy de ad S n T k th X) (i < n 4 ∧ WF S n ∧ (kk = -1 ∨ ∃ q, q < n 2 ∧ kk = nI q) ∧ chP st))) (oV B (fun H => GW D B ad (Vw cy de ad (stlS S i kk st (n 3)) n T k th X) H)) 0 0 (AB B) := by
  by_cases hkm : kk = -1
  · skip
    subst hkm
    rw [kro_none rfl] at ho
    subst ho
    refine E_met (own := RX6) rfl rfl (Nat.le_of_ble_eq_true rfl) ?_
    intro p e s m below meth c hC hr hlk hnm hG h0 ls hl
    have hx := hC.x
    have hb := hC.b
    have hS : va_S (AB B) s.heap s.heap [] := va_S.rf
    have hl : lo ls 4 [some (.ref (ad 0 0 0)), some (.ref (ad 3 i 0)), some (va_rf none), some (.int st)] := lo_of hl
    obtain ⟨hi, hW, -, hch⟩ := h0
    have hW9 := hW
    obtain ⟨hB0, hB1, hB2, hB3, hB4, hB5, hB6, hB7, hKI, hEI, hKY⟩ := hW9
    refine o_aload_n hx hb dX6_settle_0 hl rfl ?_
    refine g_get hC hG us_X0 rfl 7 (by decide) fl_X6_157 (V_ath (by omega)) rfl dX6_settle_1 ?_
    rcases hKI i (by omega) with hk1 | ⟨q1, hq1, hk1⟩
    · skip
      rw [kro_null (show _ = -1 by exact hk1)]
      refine o_aload_nq (x := none) hx hb dX6_settle_4 hl rfl ?_
      refine lv_acmp_eq (tgt := 13) (rx := none) (ry := none) hx hb dX6_settle_5 (by decide) (fun h5 => ?_) (fun h5 => ?_)
      · skip
        refine o_aload_n hx hb dX6_settle_13 hl rfl ?_
        refine o_aload_nq (x := none) hx hb dX6_settle_14 hl rfl ?_
        refine g_put hC hG hS us_X0 tyX0_ok nmX0 rfl 7 (by decide) fl_X6_157 rfl (V_ath (by omega)) rfl rfl (Nat.le_of_ble_eq_true rfl) (P_ath_kindN (by omega)) dX6_settle_15 (fun H locs hG hS => ?_)
        refine o_aload_n hx hb dX6_settle_18 hl rfl ?_
        refine o_iload_n hx hb dX6_settle_19 hl rfl ?_
        refine g_put hC hG hS us_X0 tyX0_ok nmX0 rfl 6 (by decide) fl_X6_141 rfl (V_ath (by omega)) hch.1 hch.2 (Nat.le_of_ble_eq_true rfl) (P_ath_status (by omega)) dX6_settle_20 (fun H locs hG hS => ?_)
        refine o_aload_n hx hb dX6_settle_23 hl rfl ?_
        refine o_aload_n hx hb dX6_settle_24 hl rfl ?_
        refine g_get hC hG us_X6 rfl 5 (by decide) fl_X6_197 V_games rfl dX6_settle_25 ?_
        try rw [show ∀ a b : Int32, (up3 (up3 (dropS S i (n 3)) 10 i 0 a) 9 i 0 b) 23 0 0 = S 23 0 0 from fun a b => congrFun (congrFun (dropS_o (n 3) (by decide) (by decide)) 0) 0]
        refine lv_iconst (v := 2) hx hb dX6_settle_28 (by decide) ?_
        refine lv_iadd hx hb dX6_settle_29 ?_
        refine g_put hC hG hS us_X0 tyX0_ok nmX0 rfl 8 (by decide) fl_X6_205 rfl (V_ath (by omega)) rfl rfl (Nat.le_of_ble_eq_true rfl) (P_ath_until (by omega)) dX6_settle_30 (fun H locs hG hS => ?_)
        refine o_aload_nq (x := none) hx hb dX6_settle_33 hl rfl ?_
        refine lv_ifnonnullN hx hb dX6_settle_34 ?_
        refine o_aload_n hx hb dX6_settle_37 hl rfl ?_
        refine lv_iconst (v := 0) hx hb dX6_settle_38 (by decide) ?_
        refine g_put hC hG hS us_X0 tyX0_ok nmX0 rfl 9 (by decide) fl_X6_368 rfl (V_ath (by omega)) rfl rfl (Nat.le_of_ble_eq_true rfl) (P_ath_stands (by omega)) dX6_settle_39 (fun H locs hG hS => ?_)
        exact R_V hC hS hr hlk (by first | (rw [stlS_1 hk1]; exact hG) | (rw [stlS_2 (by rw [hk1]; exact nI_ne_m1 (by omega))]; exact hG) | (rw [stlS_3 (nI_ne_m1 (by omega)) (by rw [hk1, h5])]; exact hG) | (rw [stlS_4 (nI_ne_m1 (by omega)) (by rw [hk1]; exact fun z => nI_ne_m1 (by omega) z.symm)]; exact hG) | (rw [stlS_4 (nI_ne_m1 (by omega)) (by rw [hk1]; exact fun z => h5 ((nI_eq (by omega) (by omega)).mp z))]; exact hG)) (Nat.le_of_ble_eq_true rfl) (Nat.le_of_ble_eq_true rfl) dX6_settle_42
      · exact absurd rfl h5
    · skip
      rw [kro_ref (show _ = nI q1 by exact hk1) (by omega)]
      refine o_aload_nq (x := none) hx hb dX6_settle_4 hl rfl ?_
      refine lv_acmp_eq (tgt := 13) (rx := (some (ad 7 q1 0))) (ry := none) hx hb dX6_settle_5 (by decide) (fun h5 => ?_) (fun h5 => ?_)
      · exact absurd h5 (by simp)
      · skip
        refine o_aload_n hx hb dX6_settle_8 hl rfl ?_
        refine o_aload_n hx hb dX6_settle_9 hl rfl ?_
        refine k_X6_dropOpenEntries hC hS hG ⟨by omega, hW⟩ ml_X6_427 ⟨Nat.le_of_ble_eq_true rfl, Nat.le_of_ble_eq_true rfl⟩ hl.1 (Nat.le_of_ble_eq_true rfl) dX6_settle_10 ⟨Nat.le_of_ble_eq_true rfl, Nat.le_of_ble_eq_true rfl⟩ (fun H locs hG hS => ?_)
        refine o_aload_n hx hb dX6_settle_13 hl rfl ?_
        refine o_aload_nq (x := none) hx hb dX6_settle_14 hl rfl ?_
        refine g_put hC hG hS us_X0 tyX0_ok nmX0 rfl 7 (by decide) fl_X6_157 rfl (V_ath (by omega)) rfl rfl (Nat.le_of_ble_eq_true rfl) (P_ath_kindN (by omega)) dX6_settle_15 (fun H locs hG hS => ?_)
        refine o_aload_n hx hb dX6_settle_18 hl rfl ?_
        refine o_iload_n hx hb dX6_settle_19 hl rfl ?_
        refine g_put hC hG hS us_X0 tyX0_ok nmX0 rfl 6 (by decide) fl_X6_141 rfl (V_ath (by omega)) hch.1 hch.2 (Nat.le_of_ble_eq_true rfl) (P_ath_status (by omega)) dX6_settle_20 (fun H locs hG hS => ?_)
        refine o_aload_n hx hb dX6_settle_23 hl rfl ?_
        refine o_aload_n hx hb dX6_settle_24 hl rfl ?_
        refine g_get hC hG us_X6 rfl 5 (by decide) fl_X6_197 V_games rfl dX6_settle_25 ?_
        try rw [show ∀ a b : Int32, (up3 (up3 (dropS S i (n 3)) 10 i 0 a) 9 i 0 b) 23 0 0 = S 23 0 0 from fun a b => congrFun (congrFun (dropS_o (n 3) (by decide) (by decide)) 0) 0]
        refine lv_iconst (v := 2) hx hb dX6_settle_28 (by decide) ?_
        refine lv_iadd hx hb dX6_settle_29 ?_
        refine g_put hC hG hS us_X0 tyX0_ok nmX0 rfl 8 (by decide) fl_X6_205 rfl (V_ath (by omega)) rfl rfl (Nat.le_of_ble_eq_true rfl) (P_ath_until (by omega)) dX6_settle_30 (fun H locs hG hS => ?_)
        refine o_aload_nq (x := none) hx hb dX6_settle_33 hl rfl ?_
        refine lv_ifnonnullN hx hb dX6_settle_34 ?_
        refine o_aload_n hx hb dX6_settle_37 hl rfl ?_
        refine lv_iconst (v := 0) hx hb dX6_settle_38 (by decide) ?_
        refine g_put hC hG hS us_X0 tyX0_ok nmX0 rfl 9 (by decide) fl_X6_368 rfl (V_ath (by omega)) rfl rfl (Nat.le_of_ble_eq_true rfl) (P_ath_stands (by omega)) dX6_settle_39 (fun H locs hG hS => ?_)
        exact R_V hC hS hr hlk (by first | (rw [stlS_1 hk1]; exact hG) | (rw [stlS_2 (by rw [hk1]; exact nI_ne_m1 (by omega))]; exact hG) | (rw [stlS_3 (nI_ne_m1 (by omega)) (by rw [hk1, h5])]; exact hG) | (rw [stlS_4 (nI_ne_m1 (by omega)) (by rw [hk1]; exact fun z => nI_ne_m1 (by omega) z.symm)]; exact hG) | (rw [stlS_4 (nI_ne_m1 (by omega)) (by rw [hk1]; exact fun z => h5 ((nI_eq (by omega) (by omega)).mp z))]; exact hG)) (Nat.le_of_ble_eq_true rfl) (Nat.le_of_ble_eq_true rfl) dX6_settle_42
  · skip
    by_cases hkq : ∃ q, q < 2 ^ 31 ∧ kk = nI q
    · skip
      obtain ⟨q0, hq31, rfl⟩ := hkq
      rw [kro_some rfl hq31] at ho
      subst ho
      refine E_met (own := RX6) rfl rfl (Nat.le_of_ble_eq_true rfl) ?_
      intro p e s m below meth c hC hr hlk hnm hG h0 ls hl
      have hx := hC.x
      have hb := hC.b
      have hS : va_S (AB B) s.heap s.heap [] := va_S.rf
      have hl : lo ls 4 [some (.ref (ad 0 0 0)), some (.ref (ad 3 i 0)), some (.ref (ad 7 q0 0)), some (.int st)] := lo_of hl
      obtain ⟨hi, hW, hkk, hch⟩ := h0
      have hq0 : q0 < n 2 := by
        rcases hkk with z | ⟨q, h1, h2⟩
        · exact absurd z hkm
        · have hn2 : n 2 ≤ 8 := hW.2.2.1
          rw [(nI_eq hq31 (by omega)).mp h2]; exact h1
      have hW9 := hW
      obtain ⟨hB0, hB1, hB2, hB3, hB4, hB5, hB6, hB7, hKI, hEI, hKY⟩ := hW9
      refine o_aload_n hx hb dX6_settle_0 hl rfl ?_
      refine g_get hC hG us_X0 rfl 7 (by decide) fl_X6_157 (V_ath (by omega)) rfl dX6_settle_1 ?_
      rcases hKI i (by omega) with hk1 | ⟨q1, hq1, hk1⟩
      · skip
        rw [kro_null (show _ = -1 by exact hk1)]
        refine o_aload_n hx hb dX6_settle_4 hl rfl ?_
        refine lv_acmp_eq (tgt := 13) (rx := none) (ry := (some (ad 7 q0 0))) hx hb dX6_settle_5 (by decide) (fun h5 => ?_) (fun h5 => ?_)
        · exact absurd h5 (by simp)
        · skip
          refine o_aload_n hx hb dX6_settle_8 hl rfl ?_
          refine o_aload_n hx hb dX6_settle_9 hl rfl ?_
          refine k_X6_dropOpenEntries hC hS hG ⟨by omega, hW⟩ ml_X6_427 ⟨Nat.le_of_ble_eq_true rfl, Nat.le_of_ble_eq_true rfl⟩ hl.1 (Nat.le_of_ble_eq_true rfl) dX6_settle_10 ⟨Nat.le_of_ble_eq_true rfl, Nat.le_of_ble_eq_true rfl⟩ (fun H locs hG hS => ?_)
          refine o_aload_n hx hb dX6_settle_13 hl rfl ?_
          refine o_aload_n hx hb dX6_settle_14 hl rfl ?_
          refine g_put hC hG hS us_X0 tyX0_ok nmX0 rfl 7 (by decide) fl_X6_157 rfl (V_ath (by omega)) rfl rfl (Nat.le_of_ble_eq_true rfl) (P_ath_kindQ (by omega) (by omega)) dX6_settle_15 (fun H locs hG hS => ?_)
          refine o_aload_n hx hb dX6_settle_18 hl rfl ?_
          refine o_iload_n hx hb dX6_settle_19 hl rfl ?_
          refine g_put hC hG hS us_X0 tyX0_ok nmX0 rfl 6 (by decide) fl_X6_141 rfl (V_ath (by omega)) hch.1 hch.2 (Nat.le_of_ble_eq_true rfl) (P_ath_status (by omega)) dX6_settle_20 (fun H locs hG hS => ?_)
          refine o_aload_n hx hb dX6_settle_23 hl rfl ?_
          refine o_aload_n hx hb dX6_settle_24 hl rfl ?_
          refine g_get hC hG us_X6 rfl 5 (by decide) fl_X6_197 V_games rfl dX6_settle_25 ?_
          try rw [show ∀ a b : Int32, (up3 (up3 (dropS S i (n 3)) 10 i 0 a) 9 i 0 b) 23 0 0 = S 23 0 0 from fun a b => congrFun (congrFun (dropS_o (n 3) (by decide) (by decide)) 0) 0]
          refine lv_iconst (v := 2) hx hb dX6_settle_28 (by decide) ?_
          refine lv_iadd hx hb dX6_settle_29 ?_
          refine g_put hC hG hS us_X0 tyX0_ok nmX0 rfl 8 (by decide) fl_X6_205 rfl (V_ath (by omega)) rfl rfl (Nat.le_of_ble_eq_true rfl) (P_ath_until (by omega)) dX6_settle_30 (fun H locs hG hS => ?_)
          refine o_aload_n hx hb dX6_settle_33 hl rfl ?_
          refine lv_ifnonnull (tgt := 42) hx hb dX6_settle_34 (by decide) ?_
          exact R_V hC hS hr hlk (by first | (rw [stlS_1 hk1]; exact hG) | (rw [stlS_2 (by rw [hk1]; exact nI_ne_m1 (by omega))]; exact hG) | (rw [stlS_3 (nI_ne_m1 (by omega)) (by rw [hk1, h5])]; exact hG) | (rw [stlS_4 (nI_ne_m1 (by omega)) (by rw [hk1]; exact fun z => nI_ne_m1 (by omega) z.symm)]; exact hG) | (rw [stlS_4 (nI_ne_m1 (by omega)) (by rw [hk1]; exact fun z => h5 ((nI_eq (by omega) (by omega)).mp z))]; exact hG)) (Nat.le_of_ble_eq_true rfl) (Nat.le_of_ble_eq_true rfl) dX6_settle_42
      · skip
        rw [kro_ref (show _ = nI q1 by exact hk1) (by omega)]
        refine o_aload_n hx hb dX6_settle_4 hl rfl ?_
        refine lv_acmp_eq (tgt := 13) (rx := (some (ad 7 q1 0))) (ry := (some (ad 7 q0 0))) hx hb dX6_settle_5 (by decide) (fun h5 => ?_) (fun h5 => ?_)
        · skip
          have h5 : q1 = q0 := (hG.inj (V_kind (by omega)) (V_kind (by omega)) (Option.some.inj h5)).2.1
          refine o_aload_n hx hb dX6_settle_13 hl rfl ?_
          refine o_aload_n hx hb dX6_settle_14 hl rfl ?_
          refine g_put hC hG hS us_X0 tyX0_ok nmX0 rfl 7 (by decide) fl_X6_157 rfl (V_ath (by omega)) rfl rfl (Nat.le_of_ble_eq_true rfl) (P_ath_kindQ (by omega) (by omega)) dX6_settle_15 (fun H locs hG hS => ?_)
          refine o_aload_n hx hb dX6_settle_18 hl rfl ?_
          refine o_iload_n hx hb dX6_settle_19 hl rfl ?_
          refine g_put hC hG hS us_X0 tyX0_ok nmX0 rfl 6 (by decide) fl_X6_141 rfl (V_ath (by omega)) hch.1 hch.2 (Nat.le_of_ble_eq_true rfl) (P_ath_status (by omega)) dX6_settle_20 (fun H locs hG hS => ?_)
          refine o_aload_n hx hb dX6_settle_23 hl rfl ?_
          refine o_aload_n hx hb dX6_settle_24 hl rfl ?_
          refine g_get hC hG us_X6 rfl 5 (by decide) fl_X6_197 V_games rfl dX6_settle_25 ?_
          try rw [show ∀ a b : Int32, (up3 (up3 (dropS S i (n 3)) 10 i 0 a) 9 i 0 b) 23 0 0 = S 23 0 0 from fun a b => congrFun (congrFun (dropS_o (n 3) (by decide) (by decide)) 0) 0]
          refine lv_iconst (v := 2) hx hb dX6_settle_28 (by decide) ?_
          refine lv_iadd hx hb dX6_settle_29 ?_
          refine g_put hC hG hS us_X0 tyX0_ok nmX0 rfl 8 (by decide) fl_X6_205 rfl (V_ath (by omega)) rfl rfl (Nat.le_of_ble_eq_true rfl) (P_ath_until (by omega)) dX6_settle_30 (fun H locs hG hS => ?_)
          refine o_aload_n hx hb dX6_settle_33 hl rfl ?_
          refine lv_ifnonnull (tgt := 42) hx hb dX6_settle_34 (by decide) ?_
          exact R_V hC hS hr hlk (by first | (rw [stlS_1 hk1]; exact hG) | (rw [stlS_2 (by rw [hk1]; exact nI_ne_m1 (by omega))]; exact hG) | (rw [stlS_3 (nI_ne_m1 (by omega)) (by rw [hk1, h5])]; exact hG) | (rw [stlS_4 (nI_ne_m1 (by omega)) (by rw [hk1]; exact fun z => nI_ne_m1 (by omega) z.symm)]; exact hG) | (rw [stlS_4 (nI_ne_m1 (by omega)) (by rw [hk1]; exact fun z => h5 ((nI_eq (by omega) (by omega)).mp z))]; exact hG)) (Nat.le_of_ble_eq_true rfl) (Nat.le_of_ble_eq_true rfl) dX6_settle_42
        · skip
          have h5 : ¬ q1 = q0 := fun z => h5 (by rw [z])
          refine o_aload_n hx hb dX6_settle_8 hl rfl ?_
          refine o_aload_n hx hb dX6_settle_9 hl rfl ?_
          refine k_X6_dropOpenEntries hC hS hG ⟨by omega, hW⟩ ml_X6_427 ⟨Nat.le_of_ble_eq_true rfl, Nat.le_of_ble_eq_true rfl⟩ hl.1 (Nat.le_of_ble_eq_true rfl) dX6_settle_10 ⟨Nat.le_of_ble_eq_true rfl, Nat.le_of_ble_eq_true rfl⟩ (fun H locs hG hS => ?_)
          refine o_aload_n hx hb dX6_settle_13 hl rfl ?_
          refine o_aload_n hx hb dX6_settle_14 hl rfl ?_
          refine g_put hC hG hS us_X0 tyX0_ok nmX0 rfl 7 (by decide) fl_X6_157 rfl (V_ath (by omega)) rfl rfl (Nat.le_of_ble_eq_true rfl) (P_ath_kindQ (by omega) (by omega)) dX6_settle_15 (fun H locs hG hS => ?_)
          refine o_aload_n hx hb dX6_settle_18 hl rfl ?_
          refine o_iload_n hx hb dX6_settle_19 hl rfl ?_
          refine g_put hC hG hS us_X0 tyX0_ok nmX0 rfl 6 (by decide) fl_X6_141 rfl (V_ath (by omega)) hch.1 hch.2 (Nat.le_of_ble_eq_true rfl) (P_ath_status (by omega)) dX6_settle_20 (fun H locs hG hS => ?_)
          refine o_aload_n hx hb dX6_settle_23 hl rfl ?_
          refine o_aload_n hx hb dX6_settle_24 hl rfl ?_
          refine g_get hC hG us_X6 rfl 5 (by decide) fl_X6_197 V_games rfl dX6_settle_25 ?_
          try rw [show ∀ a b : Int32, (up3 (up3 (dropS S i (n 3)) 10 i 0 a) 9 i 0 b) 23 0 0 = S 23 0 0 from fun a b => congrFun (congrFun (dropS_o (n 3) (by decide) (by decide)) 0) 0]
          refine lv_iconst (v := 2) hx hb dX6_settle_28 (by decide) ?_
          refine lv_iadd hx hb dX6_settle_29 ?_
          refine g_put hC hG hS us_X0 tyX0_ok nmX0 rfl 8 (by decide) fl_X6_205 rfl (V_ath (by omega)) rfl rfl (Nat.le_of_ble_eq_true rfl) (P_ath_until (by omega)) dX6_settle_30 (fun H locs hG hS => ?_)
          refine o_aload_n hx hb dX6_settle_33 hl rfl ?_
          refine lv_ifnonnull (tgt := 42) hx hb dX6_settle_34 (by decide) ?_
          exact R_V hC hS hr hlk (by first | (rw [stlS_1 hk1]; exact hG) | (rw [stlS_2 (by rw [hk1]; exact nI_ne_m1 (by omega))]; exact hG) | (rw [stlS_3 (nI_ne_m1 (by omega)) (by rw [hk1, h5])]; exact hG) | (rw [stlS_4 (nI_ne_m1 (by omega)) (by rw [hk1]; exact fun z => nI_ne_m1 (by omega) z.symm)]; exact hG) | (rw [stlS_4 (nI_ne_m1 (by omega)) (by rw [hk1]; exact fun z => h5 ((nI_eq (by omega) (by omega)).mp z))]; exact hG)) (Nat.le_of_ble_eq_true rfl) (Nat.le_of_ble_eq_true rfl) dX6_settle_42
    · skip
      refine E_met (own := RX6) rfl rfl (by cases o <;> exact Nat.le_of_ble_eq_true rfl) ?_
      intro p e s m below meth c hC hr hlk hnm hG h0
      exact (h0.2.2.1.elim hkm (fun ⟨q, h1, h2⟩ => hkq ⟨q, by have := h0.2.1.2.2.1; omega, h2⟩)).elim
theorem k_X6_settle {p : Program} {l : Launch} {e : Env} {R : Room} {s : State} {m : MethodId} {args : Array Value} {below : List Frame} {meth : Method} {c : Code} {H : Heap} {locs : List Loc} {cells slots : Nat} {Q : State → Prop} {cc : ByteArray} {pc nL : Nat} {ls : Array Slot} {rest : List Value} {own : String} {D : va_G} {cy : Nat → ClassId} {sa : Nat → Nat} {de B : Nat} {ad : Ad} {S : St} {n : Nat → Nat} {T : St} {k : Nat → Nat} {th : Int32} {X : Rl} {i : Nat} {kk st : Int32} {o : Option Nat}  (hC : Cx p m c cc nL s args own D cy sa de B) (hS : va_S (AB B) s.heap H locs) (hG : GW D B ad (Vw cy de ad S n T k th X) H) (h0 : i < n 4 ∧ WF S n ∧ (kk = -1 ∨ ∃ q, q < n 2 ∧ kk = nI q) ∧ chP st) (ho : kro ad kk = o) {idx : Nat} (wl : Cond.methodLink own idx yX6_settle ∈ G0) (hR : 4 + 1 ≤ R.frames ∧ 8 + (4 + 11) + 87 ≤ R.locals) (hsz : ls.size = nL) (hst : (rest.map fun v => v.category).sum ≤ 8) (hdg : decode cc pc = .ok (.invokevirtual idx, 3)) (hcs : cells + 0 ≤ R.cells ∧ slots + 0 ≤ R.slots) (kk : ∀ (H1 : Heap) (locs1 : List Loc), ((fun H => GW D B ad (Vw cy de ad (stlS S i kk st (n 3)) n T k th X) H)) H1 → va_S (AB B) s.heap H1 locs1 → W p l e R s m args below meth c H1 locs1 cells slots Q (F0 m (pc + 3) ls (rest))) : W p l e R s m args below meth c H locs cells slots Q (F0 m pc ls (.int st :: va_rf o :: .ref (ad 3 i 0) :: .ref (ad 0 0 0) :: rest)) :=
  va_callv (rV hC hS hG h0 (As := [.ref (ad 3 i 0), va_rf o, .int st]) (c_X6_settle l ho) ⟨rfl, rfl⟩ wl im_X6_settle sl_X6_X6_settle in_X6 cd_X6_settle (n := 3) (by decide +kernel) hR (recv hC hG (q := (RX6, TX6, 6)) rfl V_games) rfl hsz hst rfl hdg hcs) hS (fun _ _ h => h) (fun _ h => h) (fun u t H1 locs1 ht _ _ hB _ _ hS1 => kk H1 locs1 (by dsimp only at hB; rw [ht] at hB; exact hB) hS1)
set_option maxHeartbeats 4000000 in
set_option maxRecDepth 100000 in
theorem c_X6_settleByFound (l : Launch) {D : va_G} {cy : Nat → ClassId} {sa : Nat → Nat} {de B : Nat} {ad : Ad} {S : St} {n : Nat → Nat} {T : St} {k : Nat → Nat} {th : Int32} {X : Rl} {i : Nat} {st : Int32}  : Met l yX6_settleByFound (Cond.code yX6_settleByFound cX6_settleByFound 4 (Option.none : Option Jvm.ClassFile.FieldType) :: G0) ({ frames := 5, cells := 0, slots := 0, locals := 110 } : Room) (va_Pc [.ref (ad 0 0 0), .ref (ad 3 i 0), .int st] (PW D cy sa de B ad (Vw cy de ad S n T k th X) (i < n 4 ∧ WF S n ∧ chP st))) (oV B (fun H => GW D B ad (Vw cy de ad (sbfS S n i st) n T k th X) H)) 0 0 (AB B) := by
  refine E_met (own := RX6) rfl rfl (Nat.le_of_ble_eq_true rfl) ?_
  intro p e s m below meth c hC hr hlk hnm hG h0 ls hl
  have hx := hC.x
  have hb := hC.b
  have hS : va_S (AB B) s.heap s.heap [] := va_S.rf
  have hl : lo ls 4 [some (.ref (ad 0 0 0)), some (.ref (ad 3 i 0)), some (.int st), none] := lo_of hl
  obtain ⟨hi, hW, hch⟩ := h0
  have hW9 := hW
  obtain ⟨hB0, hB1, hB2, hB3, hB4, hB5, hB6, hB7, hKI, hEI, hKY⟩ := hW9
  
  refine o_aload_n hx hb dX6_settleByFound_0 hl rfl ?_
  refine o_aload_n hx hb dX6_settleByFound_1 hl rfl ?_
  refine g_get hC hG us_X0 rfl 4 (by decide) fl_X6_95 (V_ath (by omega)) rfl dX6_settleByFound_2 ?_
  refine k_X6_kindAround hC hS hG ⟨by omega, by omega, hW⟩ ml_X6_123 ⟨Nat.le_of_ble_eq_true rfl, Nat.le_of_ble_eq_true rfl⟩ hl.1 (Nat.le_of_ble_eq_true rfl) dX6_settleByFound_5 ⟨Nat.le_of_ble_eq_true rfl, Nat.le_of_ble_eq_true rfl⟩ (fun h5_0 => ?_) (fun q5 h5_0 h5_1 => ?_)
  · skip
    refine o_astore_nq (x := none) hx hb dX6_settleByFound_8 hl (by decide) rfl (fun ls hl => ?_)
    refine o_aload_n hx hb dX6_settleByFound_9 hl rfl ?_
    refine o_aload_n hx hb dX6_settleByFound_10 hl rfl ?_
    refine o_aload_nq (x := none) hx hb dX6_settleByFound_11 hl rfl ?_
    refine o_aload_nq (x := none) hx hb dX6_settleByFound_12 hl rfl ?_
    refine lv_ifnonnullN hx hb dX6_settleByFound_13 ?_
    refine lv_bipush (v := 101) hx hb dX6_settleByFound_16 (by decide) ?_
    refine lv_goto (tgt := 22) hx hb dX6_settleByFound_18 (by decide) ?_
    refine k_X6_settle (o := none) (kk := (-1)) hC hS hG ⟨by omega, hW, Or.inl rfl, by first | exact ⟨rfl, rfl⟩ | assumption⟩ (kro_none rfl) ml_X6_193 ⟨Nat.le_of_ble_eq_true rfl, Nat.le_of_ble_eq_true rfl⟩ hl.1 (Nat.le_of_ble_eq_true rfl) dX6_settleByFound_22 ⟨Nat.le_of_ble_eq_true rfl, Nat.le_of_ble_eq_true rfl⟩ (fun H locs hG hS => ?_)
    exact R_V hC hS hr hlk (by first | (rw [sbfS_n h5_0]; exact hG) | (rw [sbfS_q (by omega) h5_1]; exact hG)) (Nat.le_of_ble_eq_true rfl) (Nat.le_of_ble_eq_true rfl) dX6_settleByFound_25
  · skip
    refine o_astore_n hx hb dX6_settleByFound_8 hl (by decide) rfl (fun ls hl => ?_)
    refine o_aload_n hx hb dX6_settleByFound_9 hl rfl ?_
    refine o_aload_n hx hb dX6_settleByFound_10 hl rfl ?_
    refine o_aload_n hx hb dX6_settleByFound_11 hl rfl ?_
    refine o_aload_n hx hb dX6_settleByFound_12 hl rfl ?_
    refine lv_ifnonnull (tgt := 21) hx hb dX6_settleByFound_13 (by decide) ?_
    refine o_iload_n hx hb dX6_settleByFound_21 hl rfl ?_
    refine k_X6_settle (o := some (ad 7 q5 0)) (kk := (nI q5)) hC hS hG ⟨by omega, hW, Or.inr ⟨_, by omega, rfl⟩, by first | exact ⟨rfl, rfl⟩ | assumption⟩ (kro_some rfl (by omega)) ml_X6_193 ⟨Nat.le_of_ble_eq_true rfl, Nat.le_of_ble_eq_true rfl⟩ hl.1 (Nat.le_of_ble_eq_true rfl) dX6_settleByFound_22 ⟨Nat.le_of_ble_eq_true rfl, Nat.le_of_ble_eq_true rfl⟩ (fun H locs hG hS => ?_)
    exact R_V hC hS hr hlk (by first | (rw [sbfS_n h5_0]; exact hG) | (rw [sbfS_q (by omega) h5_1]; exact hG)) (Nat.le_of_ble_eq_true rfl) (Nat.le_of_ble_eq_true rfl) dX6_settleByFound_25
theorem k_X6_settleByFound {p : Program} {l : Launch} {e : Env} {R : Room} {s : State} {m : MethodId} {args : Array Value} {below : List Frame} {meth : Method} {c : Code} {H : Heap} {locs : List Loc} {cells slots : Nat} {Q : State → Prop} {cc : ByteArray} {pc nL : Nat} {ls : Array Slot} {rest : List Value} {own : String} {D : va_G} {cy : Nat → ClassId} {sa : Nat → Nat} {de B : Nat} {ad : Ad} {S : St} {n : Nat → Nat} {T : St} {k : Nat → Nat} {th : Int32} {X : Rl} {i : Nat} {st : Int32}  (hC : Cx p m c cc nL s args own D cy sa de B) (hS : va_S (AB B) s.heap H locs) (hG : GW D B ad (Vw cy de ad S n T k th X) H) (h0 : i < n 4 ∧ WF S n ∧ chP st)  {idx : Nat} (wl : Cond.methodLink own idx yX6_settleByFound ∈ G0) (hR : 5 + 1 ≤ R.frames ∧ 8 + (4 + 11) + 110 ≤ R.locals) (hsz : ls.size = nL) (hst : (rest.map fun v => v.category).sum ≤ 8) (hdg : decode cc pc = .ok (.invokevirtual idx, 3)) (hcs : cells + 0 ≤ R.cells ∧ slots + 0 ≤ R.slots) (kk : ∀ (H1 : Heap) (locs1 : List Loc), ((fun H => GW D B ad (Vw cy de ad (sbfS S n i st) n T k th X) H)) H1 → va_S (AB B) s.heap H1 locs1 → W p l e R s m args below meth c H1 locs1 cells slots Q (F0 m (pc + 3) ls (rest))) : W p l e R s m args below meth c H locs cells slots Q (F0 m pc ls (.int st :: .ref (ad 3 i 0) :: .ref (ad 0 0 0) :: rest)) :=
  va_callv (rV hC hS hG h0 (As := [.ref (ad 3 i 0), .int st]) (c_X6_settleByFound l) ⟨rfl, rfl⟩ wl im_X6_settleByFound sl_X6_X6_settleByFound in_X6 cd_X6_settleByFound (n := 2) (by decide +kernel) hR (recv hC hG (q := (RX6, TX6, 6)) rfl V_games) rfl hsz hst rfl hdg hcs) hS (fun _ _ h => h) (fun _ h => h) (fun u t H1 locs1 ht _ _ hB _ _ hS1 => kk H1 locs1 (by dsimp only at hB; rw [ht] at hB; exact hB) hS1)
set_option maxHeartbeats 4000000 in
set_option maxRecDepth 100000 in
theorem c_X6_examine (l : Launch) {D : va_G} {cy : Nat → ClassId} {sa : Nat → Nat} {de B : Nat} {ad : Ad} {S : St} {n : Nat → Nat} {T : St} {k : Nat → Nat} {th : Int32} {X : Rl} {i : Nat}  : Met l yX6_examine (Cond.code yX6_examine cX6_examine 3 (Option.none : Option Jvm.ClassFile.FieldType) :: G0) ({ frames := 6, cells := 0, slots := 0, locals := 133 } : Room) (va_Pc [.ref (ad 0 0 0), .ref (ad 3 i 0)] (PW D cy sa de B ad (Vw cy de ad S n T k th X) (i < n 4 ∧ WF S n))) (oV B (fun H => GW D B ad (Vw cy de ad (exS S n i) n T k th X) H)) 0 0 (AB B) := by
  refine E_met (own := RX6) rfl rfl (Nat.le_of_ble_eq_true rfl) ?_
  intro p e s m below meth c hC hr hlk hnm hG h0 ls hl
  have hx := hC.x
  have hb := hC.b
  have hS : va_S (AB B) s.heap s.heap [] := va_S.rf
  have hl : lo ls 3 [some (.ref (ad 0 0 0)), some (.ref (ad 3 i 0)), none] := lo_of hl
  obtain ⟨hi, hW⟩ := h0
  have hW9 := hW
  obtain ⟨hB0, hB1, hB2, hB3, hB4, hB5, hB6, hB7, hKI, hEI, hKY⟩ := hW9
  
  refine o_aload_n hx hb dX6_examine_0 hl rfl ?_
  refine g_get hC hG us_X0 rfl 2 (by decide) fl_X6_65 (V_ath (by omega)) rfl dX6_examine_1 ?_
  refine o_aload_n hx hb dX6_examine_4 hl rfl ?_
  refine g_get hC hG us_X0 rfl 4 (by decide) fl_X6_95 (V_ath (by omega)) rfl dX6_examine_5 ?_
  refine k_X5_isFarAbove hC hS hG ⟨by omega, by omega, by omega, by omega⟩ ml_X6_421 ⟨Nat.le_of_ble_eq_true rfl, Nat.le_of_ble_eq_true rfl⟩ hl.1 (Nat.le_of_ble_eq_true rfl) dX6_examine_8 ⟨Nat.le_of_ble_eq_true rfl, Nat.le_of_ble_eq_true rfl⟩ (fun h8 => ?_) (fun h8 => ?_)
  · skip
    refine o_istore_n hx hb dX6_examine_11 hl (by decide) rfl (fun ls hl => ?_)
    refine o_aload_n hx hb dX6_examine_12 hl rfl ?_
    refine k_X0_findWhatIs hC hS hG (by omega) ml_X6_424 ⟨Nat.le_of_ble_eq_true rfl, Nat.le_of_ble_eq_true rfl⟩ hl.1 (Nat.le_of_ble_eq_true rfl) dX6_examine_13 ⟨Nat.le_of_ble_eq_true rfl, Nat.le_of_ble_eq_true rfl⟩ (fun H locs hG hS => ?_)
    have hG : GW D B ad (Vw cy de ad (fiS S i) n T k th X) H := hG
    refine o_iload_n hx hb dX6_examine_16 hl rfl ?_
    refine lv_if_eq (tgt := 31) hx hb dX6_examine_17 (by decide) (fun h17 => ?_) (fun h17 => ?_)
    · exact absurd h17 (by decide)
    · skip
      refine o_aload_n hx hb dX6_examine_20 hl rfl ?_
      refine o_aload_n hx hb dX6_examine_21 hl rfl ?_
      refine lv_null hx hb dX6_examine_22 ?_
      refine lv_bipush (v := 120) hx hb dX6_examine_23 (by decide) ?_
      refine k_X6_settle (o := none) (kk := (-1)) hC hS hG ⟨by omega, WF_fi (i := i) hW, Or.inl rfl, ⟨rfl, rfl⟩⟩ (kro_none rfl) ml_X6_193 ⟨Nat.le_of_ble_eq_true rfl, Nat.le_of_ble_eq_true rfl⟩ hl.1 (Nat.le_of_ble_eq_true rfl) dX6_examine_25 ⟨Nat.le_of_ble_eq_true rfl, Nat.le_of_ble_eq_true rfl⟩ (fun H locs hG hS => ?_)
      refine lv_goto (tgt := 38) hx hb dX6_examine_28 (by decide) ?_
      exact R_V hC hS hr hlk (by first | (rw [show exS S n i = _ from cif_t h8]; exact hG) | (rw [show exS S n i = _ from cif_f h8]; exact hG)) (Nat.le_of_ble_eq_true rfl) (Nat.le_of_ble_eq_true rfl) dX6_examine_38
  · skip
    refine o_istore_n hx hb dX6_examine_11 hl (by decide) rfl (fun ls hl => ?_)
    refine o_aload_n hx hb dX6_examine_12 hl rfl ?_
    refine k_X0_findWhatIs hC hS hG (by omega) ml_X6_424 ⟨Nat.le_of_ble_eq_true rfl, Nat.le_of_ble_eq_true rfl⟩ hl.1 (Nat.le_of_ble_eq_true rfl) dX6_examine_13 ⟨Nat.le_of_ble_eq_true rfl, Nat.le_of_ble_eq_true rfl⟩ (fun H locs hG hS => ?_)
    have hG : GW D B ad (Vw cy de ad (fiS S i) n T k th X) H := hG
    refine o_iload_n hx hb dX6_examine_16 hl rfl ?_
    refine lv_if_eq (tgt := 31) hx hb dX6_examine_17 (by decide) (fun h17 => ?_) (fun h17 => ?_)
    · skip
      refine o_aload_n hx hb dX6_examine_31 hl rfl ?_
      refine o_aload_n hx hb dX6_examine_32 hl rfl ?_
      refine lv_bipush (v := 99) hx hb dX6_examine_33 (by decide) ?_
      refine k_X6_settleByFound hC hS hG ⟨by omega, WF_fi (i := i) hW, ⟨rfl, rfl⟩⟩ ml_X6_153 ⟨Nat.le_of_ble_eq_true rfl, Nat.le_of_ble_eq_true rfl⟩ hl.1 (Nat.le_of_ble_eq_true rfl) dX6_examine_35 ⟨Nat.le_of_ble_eq_true rfl, Nat.le_of_ble_eq_true rfl⟩ (fun H locs hG hS => ?_)
      exact R_V hC hS hr hlk (by first | (rw [show exS S n i = _ from cif_t h8]; exact hG) | (rw [show exS S n i = _ from cif_f h8]; exact hG)) (Nat.le_of_ble_eq_true rfl) (Nat.le_of_ble_eq_true rfl) dX6_examine_38
    · exact absurd h17 (by decide)
theorem k_X6_examine {p : Program} {l : Launch} {e : Env} {R : Room} {s : State} {m : MethodId} {args : Array Value} {below : List Frame} {meth : Method} {c : Code} {H : Heap} {locs : List Loc} {cells slots : Nat} {Q : State → Prop} {cc : ByteArray} {pc nL : Nat} {ls : Array Slot} {rest : List Value} {own : String} {D : va_G} {cy : Nat → ClassId} {sa : Nat → Nat} {de B : Nat} {ad : Ad} {S : St} {n : Nat → Nat} {T : St} {k : Nat → Nat} {th : Int32} {X : Rl} {i : Nat}  (hC : Cx p m c cc nL s args own D cy sa de B) (hS : va_S (AB B) s.heap H locs) (hG : GW D B ad (Vw cy de ad S n T k th X) H) (h0 : i < n 4 ∧ WF S n)  {idx : Nat} (wl : Cond.methodLink own idx yX6_examine ∈ G0) (hR : 6 + 1 ≤ R.frames ∧ 8 + (3 + 11) + 133 ≤ R.locals) (hsz : ls.size = nL) (hst : (rest.map fun v => v.category).sum ≤ 8) (hdg : decode cc pc = .ok (.invokevirtual idx, 3)) (hcs : cells + 0 ≤ R.cells ∧ slots + 0 ≤ R.slots) (kk : ∀ (H1 : Heap) (locs1 : List Loc), ((fun H => GW D B ad (Vw cy de ad (exS S n i) n T k th X) H)) H1 → va_S (AB B) s.heap H1 locs1 → W p l e R s m args below meth c H1 locs1 cells slots Q (F0 m (pc + 3) ls (rest))) : W p l e R s m args below meth c H locs cells slots Q (F0 m pc ls (.ref (ad 3 i 0) :: .ref (ad 0 0 0) :: rest)) :=
  va_callv (rV hC hS hG h0 (As := [.ref (ad 3 i 0)]) (c_X6_examine l) ⟨rfl, rfl⟩ wl im_X6_examine sl_X6_X6_examine in_X6 cd_X6_examine (n := 1) (by decide +kernel) hR (recv hC hG (q := (RX6, TX6, 6)) rfl V_games) rfl hsz hst rfl hdg hcs) hS (fun _ _ h => h) (fun _ h => h) (fun u t H1 locs1 ht _ _ hB _ _ hS1 => kk H1 locs1 (by dsimp only at hB; rw [ht] at hB; exact hB) hS1)
set_option maxHeartbeats 4000000 in
set_option maxRecDepth 100000 in
theorem c_X6_endWaiting (l : Launch) {D : va_G} {cy : Nat → ClassId} {sa : Nat → Nat} {de B : Nat} {ad : Ad} {S : St} {n : Nat → Nat} {T : St} {k : Nat → Nat} {th : Int32} {X : Rl} {i : Nat}  : Met l yX6_endWaiting (Cond.code yX6_endWaiting cX6_endWaiting 2 (Option.none : Option Jvm.ClassFile.FieldType) :: G0) ({ frames := 6, cells := 0, slots := 0, locals := 133 } : Room) (va_Pc [.ref (ad 0 0 0), .ref (ad 3 i 0)] (PW D cy sa de B ad (Vw cy de ad S n T k th X) (i < n 4 ∧ WF S n))) (oV B (fun H => GW D B ad (Vw cy de ad (ewS S n i) n T k th X) H)) 0 0 (AB B) := by
  refine E_met (own := RX6) rfl rfl (Nat.le_of_ble_eq_true rfl) ?_
  intro p e s m below meth c hC hr hlk hnm hG h0 ls hl
  have hx := hC.x
  have hb := hC.b
  have hS : va_S (AB B) s.heap s.heap [] := va_S.rf
  have hl : lo ls 2 [some (.ref (ad 0 0 0)), some (.ref (ad 3 i 0))] := lo_of hl
  obtain ⟨hi, hW⟩ := h0
  have hW9 := hW
  obtain ⟨hB0, hB1, hB2, hB3, hB4, hB5, hB6, hB7, hKI, hEI, hKY⟩ := hW9
  
  refine o_aload_n hx hb dX6_endWaiting_0 hl rfl ?_
  refine g_get hC hG us_X0 rfl 6 (by decide) fl_X6_141 (V_ath (by omega)) rfl dX6_endWaiting_1 ?_
  refine lv_bipush (v := 120) hx hb dX6_endWaiting_4 (by decide) ?_
  refine lv_icmp_ne (tgt := 20) hx hb dX6_endWaiting_6 (by decide) (fun h6 => ?_) (fun h6 => ?_)
  · skip
    refine o_aload_n hx hb dX6_endWaiting_20 hl rfl ?_
    refine o_aload_n hx hb dX6_endWaiting_21 hl rfl ?_
    refine lv_bipush (v := 99) hx hb dX6_endWaiting_22 (by decide) ?_
    refine k_X6_settleByFound hC hS hG ⟨by omega, hW, ⟨rfl, rfl⟩⟩ ml_X6_153 ⟨Nat.le_of_ble_eq_true rfl, Nat.le_of_ble_eq_true rfl⟩ hl.1 (Nat.le_of_ble_eq_true rfl) dX6_endWaiting_24 ⟨Nat.le_of_ble_eq_true rfl, Nat.le_of_ble_eq_true rfl⟩ (fun H locs hG hS => ?_)
    exact R_V hC hS hr hlk (by first | (rw [show ewS S n i = _ from cif_t h6]; exact hG) | (rw [show ewS S n i = _ from cif_f h6]; exact hG)) (Nat.le_of_ble_eq_true rfl) (Nat.le_of_ble_eq_true rfl) dX6_endWaiting_27
  · skip
    refine o_aload_n hx hb dX6_endWaiting_9 hl rfl ?_
    refine o_aload_n hx hb dX6_endWaiting_10 hl rfl ?_
    refine lv_null hx hb dX6_endWaiting_11 ?_
    refine lv_bipush (v := 45) hx hb dX6_endWaiting_12 (by decide) ?_
    refine k_X6_settle (o := none) (kk := (-1)) hC hS hG ⟨by omega, hW, Or.inl rfl, by first | exact ⟨rfl, rfl⟩ | assumption⟩ (kro_none rfl) ml_X6_193 ⟨Nat.le_of_ble_eq_true rfl, Nat.le_of_ble_eq_true rfl⟩ hl.1 (Nat.le_of_ble_eq_true rfl) dX6_endWaiting_14 ⟨Nat.le_of_ble_eq_true rfl, Nat.le_of_ble_eq_true rfl⟩ (fun H locs hG hS => ?_)
    refine lv_goto (tgt := 27) hx hb dX6_endWaiting_17 (by decide) ?_
    exact R_V hC hS hr hlk (by first | (rw [show ewS S n i = _ from cif_t h6]; exact hG) | (rw [show ewS S n i = _ from cif_f h6]; exact hG)) (Nat.le_of_ble_eq_true rfl) (Nat.le_of_ble_eq_true rfl) dX6_endWaiting_27
theorem k_X6_endWaiting {p : Program} {l : Launch} {e : Env} {R : Room} {s : State} {m : MethodId} {args : Array Value} {below : List Frame} {meth : Method} {c : Code} {H : Heap} {locs : List Loc} {cells slots : Nat} {Q : State → Prop} {cc : ByteArray} {pc nL : Nat} {ls : Array Slot} {rest : List Value} {own : String} {D : va_G} {cy : Nat → ClassId} {sa : Nat → Nat} {de B : Nat} {ad : Ad} {S : St} {n : Nat → Nat} {T : St} {k : Nat → Nat} {th : Int32} {X : Rl} {i : Nat}  (hC : Cx p m c cc nL s args own D cy sa de B) (hS : va_S (AB B) s.heap H locs) (hG : GW D B ad (Vw cy de ad S n T k th X) H) (h0 : i < n 4 ∧ WF S n)  {idx : Nat} (wl : Cond.methodLink own idx yX6_endWaiting ∈ G0) (hR : 6 + 1 ≤ R.frames ∧ 8 + (2 + 11) + 133 ≤ R.locals) (hsz : ls.size = nL) (hst : (rest.map fun v => v.category).sum ≤ 8) (hdg : decode cc pc = .ok (.invokevirtual idx, 3)) (hcs : cells + 0 ≤ R.cells ∧ slots + 0 ≤ R.slots) (kk : ∀ (H1 : Heap) (locs1 : List Loc), ((fun H => GW D B ad (Vw cy de ad (ewS S n i) n T k th X) H)) H1 → va_S (AB B) s.heap H1 locs1 → W p l e R s m args below meth c H1 locs1 cells slots Q (F0 m (pc + 3) ls (rest))) : W p l e R s m args below meth c H locs cells slots Q (F0 m pc ls (.ref (ad 3 i 0) :: .ref (ad 0 0 0) :: rest)) :=
  va_callv (rV hC hS hG h0 (As := [.ref (ad 3 i 0)]) (c_X6_endWaiting l) ⟨rfl, rfl⟩ wl im_X6_endWaiting sl_X6_X6_endWaiting in_X6 cd_X6_endWaiting (n := 1) (by decide +kernel) hR (recv hC hG (q := (RX6, TX6, 6)) rfl V_games) rfl hsz hst rfl hdg hcs) hS (fun _ _ h => h) (fun _ h => h) (fun u t H1 locs1 ht _ _ hB _ _ hS1 => kk H1 locs1 (by dsimp only at hB; rw [ht] at hB; exact hB) hS1)
set_option maxHeartbeats 4000000 in
set_option maxRecDepth 100000 in
theorem c_X6_hasResult (l : Launch) {D : va_G} {cy : Nat → ClassId} {sa : Nat → Nat} {de B : Nat} {ad : Ad} {S : St} {n : Nat → Nat} {T : St} {k : Nat → Nat} {th : Int32} {X : Rl} {i : Nat}  : Met l yX6_hasResult (Cond.code yX6_hasResult cX6_hasResult 4 (Option.some Jvm.ClassFile.FieldType.boolean) :: G0) ({ frames := 3, cells := 0, slots := 0, locals := 64 } : Room) (va_Pc [.ref (ad 0 0 0), .ref (ad 3 i 0)] (PW D cy sa de B ad (Vw cy de ad S n T k th X) (i < n 4 ∧ WF S n ∧ NE S))) (vp_Si (fun r => (r = 1 ∧ resP S i (n 3)) ∨ (r = 0 ∧ ¬ resP S i (n 3)))) 0 0 (fun _ => False) := by
  refine E_met (own := RX6) rfl rfl (Nat.le_of_ble_eq_true rfl) ?_
  intro p e s m below meth c hC hr hlk hnm hG h0 ls hl
  have hx := hC.x
  have hb := hC.b
  have hS : va_S (AB B) s.heap s.heap [] := va_S.rf
  have hl : lo ls 4 [some (.ref (ad 0 0 0)), some (.ref (ad 3 i 0)), none, none] := lo_of hl
  obtain ⟨hi, hW, hNE⟩ := h0
  have hW9 := hW
  obtain ⟨hB0, hB1, hB2, hB3, hB4, hB5, hB6, hB7, hKI, hEI, hKY⟩ := hW9
  
  refine lv_iconst (v := 0) hx hb dX6_hasResult_0 (by decide) ?_
  refine o_istore_n hx hb dX6_hasResult_1 hl (by decide) rfl (fun ls hl => ?_)
  have loop2 : ∀ (q9 : Nat) (y : Nat), y ≤ n 3 ∧ n 3 < y + q9 → (∀ z, z < y → ¬ timeP S z i) → ∀ ls : Array Slot, lo ls 4 [some (.ref (ad 0 0 0)), some (.ref (ad 3 i 0)), some (.int (nI y)), none] → W p l e ({ frames := 3, cells := 0, slots := 0, locals := 64 } : Room) s m [.ref (ad 0 0 0), .ref (ad 3 i 0)].toArray below meth c s.heap [] 0 0 (MQ below (vp_Si (fun r => (r = 1 ∧ resP S i (n 3)) ∨ (r = 0 ∧ ¬ resP S i (n 3)))) [.ref (ad 0 0 0), .ref (ad 3 i 0)].toArray s 0 0 (fun _ => False)) (F0 m 2 ls []) := by
    intro q9
    induction q9 with
    | zero => intro y hq9; exact absurd hq9 (by omega)
    | succ q9 ih2 =>
      intro y hq9 hn  ls hl
      refine o_iload_n hx hb dX6_hasResult_2 hl rfl ?_
      refine o_aload_n hx hb dX6_hasResult_3 hl rfl ?_
      refine g_get hC hG us_X6 rfl 3 (by decide) fl_X6_22 V_games rfl dX6_hasResult_4 ?_
      refine k_Jx4a65c_size_8abf5 (q := 3) hC hS hG (by omega) ml_X6_33 ⟨Nat.le_of_ble_eq_true rfl, Nat.le_of_ble_eq_true rfl⟩ hl.1 (Nat.le_of_ble_eq_true rfl) dX6_hasResult_7 ⟨Nat.le_of_ble_eq_true rfl, Nat.le_of_ble_eq_true rfl⟩ ?_
      refine n_icmp_ge (tgt := 48) hx hb y (n 3) rfl rfl (by omega) (by omega) dX6_hasResult_10 (by decide) (fun h10 => ?_) (fun h10 => ?_)
      · skip
        refine lv_iconst (v := 0) hx hb dX6_hasResult_48 (by decide) ?_
        exact R_i hC hr hlk rfl (Or.inr ⟨rfl, fun ⟨z, hz, ht⟩ => hn z (by omega) ht⟩) dX6_hasResult_49
      · exact absurd h10 (by omega)
  exact loop2 (n 3 + 1) 0 (by omega) (fun _ h => absurd h (Nat.not_lt_zero _)) ls hl
theorem k_X6_hasResult {p : Program} {l : Launch} {e : Env} {R : Room} {s : State} {m : MethodId} {args : Array Value} {below : List Frame} {meth : Method} {c : Code} {H : Heap} {locs : List Loc} {cells slots : Nat} {Q : State → Prop} {cc : ByteArray} {pc nL : Nat} {ls : Array Slot} {rest : List Value} {own : String} {D : va_G} {cy : Nat → ClassId} {sa : Nat → Nat} {de B : Nat} {ad : Ad} {S : St} {n : Nat → Nat} {T : St} {k : Nat → Nat} {th : Int32} {X : Rl} {i : Nat}  (hC : Cx p m c cc nL s args own D cy sa de B) (hS : va_S (AB B) s.heap H locs) (hG : GW D B ad (Vw cy de ad S n T k th X) H) (h0 : i < n 4 ∧ WF S n ∧ NE S)  {idx : Nat} (wl : Cond.methodLink own idx yX6_hasResult ∈ G0) (hR : 3 + 1 ≤ R.frames ∧ 8 + (4 + 11) + 64 ≤ R.locals) (hsz : ls.size = nL) (hst : (rest.map fun v => v.category).sum ≤ 8) (hdg : decode cc pc = .ok (.invokevirtual idx, 3)) (hcs : cells + 0 ≤ R.cells ∧ slots + 0 ≤ R.slots) (kt : (resP S i (n 3)) → W p l e R s m args below meth c H locs cells slots Q (F0 m (pc + 3) ls (.int 1 :: rest))) (kf : ¬ (resP S i (n 3)) → W p l e R s m args below meth c H locs cells slots Q (F0 m (pc + 3) ls (.int 0 :: rest))) : W p l e R s m args below meth c H locs cells slots Q (F0 m pc ls (.ref (ad 3 i 0) :: .ref (ad 0 0 0) :: rest)) :=
  vp_callSi (va_Run.run (rV hC hS hG h0 (As := [.ref (ad 3 i 0)]) (c_X6_hasResult l) ⟨rfl, rfl⟩ wl im_X6_hasResult sl_X6_X6_hasResult in_X6 cd_X6_hasResult (n := 1) (by decide +kernel) hR (recv hC hG (q := (RX6, TX6, 6)) rfl V_games) rfl hsz hst rfl hdg hcs)) (fun r hr => by rcases hr with ⟨rfl, hp⟩ | ⟨rfl, hp⟩; exact kt hp; exact kf hp)