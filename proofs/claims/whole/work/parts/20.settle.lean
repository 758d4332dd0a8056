set_option maxHeartbeats 4000000 in
set_option maxRecDepth 100000 in
theorem c_X6_dropOpenEntries (l : Launch) {D : va_G} {cy : Nat → ClassId} {sa : Nat → Nat} {de B : Nat} {ad : Ad} {S : St} {n : Nat → Nat} {T : St} {k : Nat → Nat} {th : Int32} {X : Rl} {i : Nat}  : Met l yX6_dropOpenEntries (Cond.code yX6_dropOpenEntries cX6_dropOpenEntries 4 (Option.none : Option Jvm.ClassFile.FieldType) :: G0) ({ frames := 3, cells := 0, slots := 0, locals := 64 } : Room) (va_Pc [.ref (ad 0 0 0), .ref (ad 3 i 0)] (PW D cy sa de B ad (Vw cy de ad S n T k th X) (i < n 4 ∧ WF S n))) (oV B (fun H => GW D B ad (Vw cy de ad (dropS S i (n 3)) n T k th X) H)) 0 0 (AB B) := by
  refine E_met (own := RX6) rfl rfl (Nat.le_of_ble_eq_true rfl) ?_
  intro p e s m below meth c hC hr hlk hnm hG h0 ls hl
  have hx := hC.x
  have hb := hC.b
  have hS : va_S (AB B) s.heap s.heap [] := va_S.rf
  have hl : lo ls 4 [some (.ref (ad 0 0 0)), some (.ref (ad 3 i 0)), none, none] := lo_of hl
  obtain ⟨hi, hW⟩ := h0
  have hW9 := hW
  obtain ⟨hB0, hB1, hB2, hB3, hB4, hB5, hB6, hB7, hKI, hEI, hKY⟩ := hW9
  
  refine lv_iconst (v := 0) hx hb dX6_dropOpenEntries_0 (by decide) ?_
  refine o_istore_n hx hb dX6_dropOpenEntries_1 hl (by decide) rfl (fun ls hl => ?_)
  have loop2 : ∀ (q9 : Nat) (y : Nat), y ≤ n 3 ∧ n 3 < y + q9 → ∀ (H : Heap) (locs : List Loc), GW D B ad (Vw cy de ad (dropS S i y) n T k th X) H → va_S (AB B) s.heap H locs → ∀ ls : Array Slot, lo ls 4 [some (.ref (ad 0 0 0)), some (.ref (ad 3 i 0)), some (.int (nI y)), none] → W p l e ({ frames := 3, cells := 0, slots := 0, locals := 64 } : Room) s m [.ref (ad 0 0 0), .ref (ad 3 i 0)].toArray below meth c H locs 0 0 (MQ below (oV B (fun H => GW D B ad (Vw cy de ad (dropS S i (n 3)) n T k th X) H)) [.ref (ad 0 0 0), .ref (ad 3 i 0)].toArray s 0 0 (AB B)) (F0 m 2 ls []) := by
    intro q9
    induction q9 with
    | zero => intro y hq9; exact absurd hq9 (by omega)
    | succ q9 ih2 =>
      intro y hq9  H locs hG hS ls hl
      have z20 : dropS S i y 20 = S 20 := dropS_o y (by decide) (by decide)
      have z19 : dropS S i y 19 = S 19 := dropS_o y (by decide) (by decide)
      refine o_iload_n hx hb dX6_dropOpenEntries_2 hl rfl ?_
      refine o_aload_n hx hb dX6_dropOpenEntries_3 hl rfl ?_
      refine g_get hC hG us_X6 rfl 3 (by decide) fl_X6_22 V_games rfl dX6_dropOpenEntries_4 ?_
      refine k_Jx4a65c_size_8abf5 (q := 3) hC hS hG (by omega) ml_X6_33 ⟨Nat.le_of_ble_eq_true rfl, Nat.le_of_ble_eq_true rfl⟩ hl.1 (Nat.le_of_ble_eq_true rfl) dX6_dropOpenEntries_7 ⟨Nat.le_of_ble_eq_true rfl, Nat.le_of_ble_eq_true rfl⟩ ?_
      refine n_icmp_ge (tgt := 60) hx hb y (n 3) rfl rfl (by omega) (by omega) dX6_dropOpenEntries_10 (by decide) (fun h10 => ?_) (fun h10 => ?_)
      · skip
        exact R_V hC hS hr hlk ((show y = n 3 by omega) ▸ hG) (Nat.le_of_ble_eq_true rfl) (Nat.le_of_ble_eq_true rfl) dX6_dropOpenEntries_60
      · skip
        refine o_aload_n hx hb dX6_dropOpenEntries_13 hl rfl ?_
        refine g_get hC hG us_X6 rfl 3 (by decide) fl_X6_22 V_games rfl dX6_dropOpenEntries_14 ?_
        refine o_iload_n hx hb dX6_dropOpenEntries_17 hl rfl ?_
        refine k_Jx4a65c_get_915e3 (q := 3) hC hS hG ⟨by omega, by omega, by omega⟩ (show elT 3 = 8 from rfl) ml_X6_185 ⟨Nat.le_of_ble_eq_true rfl, Nat.le_of_ble_eq_true rfl⟩ hl.1 (Nat.le_of_ble_eq_true rfl) dX6_dropOpenEntries_18 ⟨Nat.le_of_ble_eq_true rfl, Nat.le_of_ble_eq_true rfl⟩ ?_
        refine va_castS hx hb hC.o (hC.t _ cl_X6_221) (hC.K.1 4 _ rfl).2 (recv hC hG (q := (RX3, TX3, 5)) rfl (V_event (by omega))) dX6_dropOpenEntries_21 ?_
        refine o_aload_n hx hb dX6_dropOpenEntries_24 hl rfl ?_
        refine k_X3_entryOf hC hS hG ⟨by omega, by omega, WF_drop hW y⟩ ml_X6_250 ⟨Nat.le_of_ble_eq_true rfl, Nat.le_of_ble_eq_true rfl⟩ hl.1 (Nat.le_of_ble_eq_true rfl) dX6_dropOpenEntries_25 ⟨Nat.le_of_ble_eq_true rfl, Nat.le_of_ble_eq_true rfl⟩ (fun h25_0 => ?_) (fun q25 h25_0 h25_1 h25_2 => ?_)
        · skip
          refine o_astore_nq (x := none) hx hb dX6_dropOpenEntries_28 hl (by decide) rfl (fun ls hl => ?_)
          refine o_aload_nq (x := none) hx hb dX6_dropOpenEntries_29 hl rfl ?_
          refine lv_ifnullN (tgt := 54) hx hb dX6_dropOpenEntries_30 (by decide) ?_
          refine o_iinc1 hx hb dX6_dropOpenEntries_54 hl rfl (by decide) rfl (fun ls hl => ?_)
          refine lv_goto (tgt := 2) hx hb dX6_dropOpenEntries_57 (by decide) ?_
          exact ih2 (y + 1) (by omega) H locs (by first | (rw [dropS_t (S := S) (i := i) (c := y) ⟨by rw [← z20, h25_1]; exact nI_ne_m1 (by omega), by rw [← z19]; exact h47⟩]; exact hG) | (rw [dropS_f (S := S) (i := i) (c := y) (fun z => z.1 (by rw [← z20]; exact h25_0))]; exact hG) | (rw [dropS_f (S := S) (i := i) (c := y) (fun z => h47 (by rw [z19]; exact z.2))]; exact hG)) hS ls (lo_none (i := 3) hl)
        · skip
          refine o_astore_n hx hb dX6_dropOpenEntries_28 hl (by decide) rfl (fun ls hl => ?_)
          refine o_aload_n hx hb dX6_dropOpenEntries_29 hl rfl ?_
          refine lv_ifnull hx hb dX6_dropOpenEntries_30 ?_
          refine o_aload_n hx hb dX6_dropOpenEntries_33 hl rfl ?_
          refine g_get hC hG us_X6 rfl 3 (by decide) fl_X6_22 V_games rfl dX6_dropOpenEntries_34 ?_
          refine o_iload_n hx hb dX6_dropOpenEntries_37 hl rfl ?_
          refine k_Jx4a65c_get_915e3 (q := 3) hC hS hG ⟨by omega, by omega, by omega⟩ (show elT 3 = 8 from rfl) ml_X6_185 ⟨Nat.le_of_ble_eq_true rfl, Nat.le_of_ble_eq_true rfl⟩ hl.1 (Nat.le_of_ble_eq_true rfl) dX6_dropOpenEntries_38 ⟨Nat.le_of_ble_eq_true rfl, Nat.le_of_ble_eq_true rfl⟩ ?_
          refine va_castS hx hb hC.o (hC.t _ cl_X6_221) (hC.K.1 4 _ rfl).2 (recv hC hG (q := (RX3, TX3, 5)) rfl (V_event (by omega))) dX6_dropOpenEntries_41 ?_
          refine g_get hC hG us_X3 rfl 4 (by decide) fl_X6_286 (V_event (by omega)) rfl dX6_dropOpenEntries_44 ?_
          refine lv_if_ne (tgt := 54) hx hb dX6_dropOpenEntries_47 (by decide) (fun h47 => ?_) (fun h47 => ?_)
          · skip
            refine o_iinc1 hx hb dX6_dropOpenEntries_54 hl rfl (by decide) rfl (fun ls hl => ?_)
            refine lv_goto (tgt := 2) hx hb dX6_dropOpenEntries_57 (by decide) ?_
            exact ih2 (y + 1) (by omega) H locs (by first | (rw [dropS_t (S := S) (i := i) (c := y) ⟨by rw [← z20, h25_1]; exact nI_ne_m1 (by omega), by rw [← z19]; exact h47⟩]; exact hG) | (rw [dropS_f (S := S) (i := i) (c := y) (fun z => z.1 (by rw [← z20]; exact h25_0))]; exact hG) | (rw [dropS_f (S := S) (i := i) (c := y) (fun z => h47 (by rw [z19]; exact z.2))]; exact hG)) hS ls (lo_none (i := 3) hl)
          · skip
            refine o_aload_n hx hb dX6_dropOpenEntries_50 hl rfl ?_
            refine k_X2_fall hC hS hG ⟨by omega, by omega, by assumption⟩ ml_X6_297 ⟨Nat.le_of_ble_eq_true rfl, Nat.le_of_ble_eq_true rfl⟩ hl.1 (Nat.le_of_ble_eq_true rfl) dX6_dropOpenEntries_51 ⟨Nat.le_of_ble_eq_true rfl, Nat.le_of_ble_eq_true rfl⟩ (fun H locs hG hS => ?_)
            refine o_iinc1 hx hb dX6_dropOpenEntries_54 hl rfl (by decide) rfl (fun ls hl => ?_)
            refine lv_goto (tgt := 2) hx hb dX6_dropOpenEntries_57 (by decide) ?_
            exact ih2 (y + 1) (by omega) H locs (by first | (rw [dropS_t (S := S) (i := i) (c := y) ⟨by rw [← z20, h25_1]; exact nI_ne_m1 (by omega), by rw [← z19]; exact h47⟩]; exact hG) | (rw [dropS_f (S := S) (i := i) (c := y) (fun z => z.1 (by rw [← z20]; exact h25_0))]; exact hG) | (rw [dropS_f (S := S) (i := i) (c := y) (fun z => h47 (by rw [z19]; exact z.2))]; exact hG)) hS ls (lo_none (i := 3) hl)
  exact loop2 (n 3 + 1) 0 (by omega) s.heap [] hG hS ls hl
theorem k_X6_dropOpenEntries {p : Program} {l : Launch} {e : Env} {R : Room} {s : State} {m : MethodId} {args : Array Value} {below : List Frame} {meth : Method} {c : Code} {H : Heap} {locs : List Loc} {cells slots : Nat} {Q : State → Prop} {cc : ByteArray} {pc nL : Nat} {ls : Array Slot} {rest : List Value} {own : String} {D : va_G} {cy : Nat → ClassId} {sa : Nat → Nat} {de B : Nat} {ad : Ad} {S : St} {n : Nat → Nat} {T : St} {k : Nat → Nat} {th : Int32} {X : Rl} {i : Nat}  (hC : Cx p m c cc nL s args own D cy sa de B) (hS : va_S (AB B) s.heap H locs) (hG : GW D B ad (Vw cy de ad S n T k th X) H) (h0 : i < n 4 ∧ WF S n)  {idx : Nat} (wl : Cond.methodLink own idx yX6_dropOpenEntries ∈ G0) (hR : 3 + 1 ≤ R.frames ∧ 8 + (4 + 11) + 64 ≤ R.locals) (hsz : ls.size = nL) (hst : (rest.map fun v => v.category).sum ≤ 8) (hdg : decode cc pc = .ok (.invokevirtual idx, 3)) (hcs : cells + 0 ≤ R.cells ∧ slots + 0 ≤ R.slots) (kk : ∀ (H1 : Heap) (locs1 : List Loc), ((fun H => GW D B ad (Vw cy de ad (dropS S i (n 3)) n T k th X) H)) H1 → va_S (AB B) s.heap H1 locs1 → W p l e R s m args below meth c H1 locs1 cells slots Q (F0 m (pc + 3) ls (rest))) : W p l e R s m args below meth c H locs cells slots Q (F0 m pc ls (.ref (ad 3 i 0) :: .ref (ad 0 0 0) :: rest)) :=
  va_callv (rV hC hS hG h0 (As := [.ref (ad 3 i 0)]) (c_X6_dropOpenEntries l) ⟨rfl, rfl⟩ wl im_X6_dropOpenEntries sl_X6_X6_dropOpenEntries in_X6 cd_X6_dropOpenEntries (n := 1) (by decide +kernel) hR (recv hC hG (q := (RX6, TX6, 6)) rfl V_games) rfl hsz hst rfl hdg hcs) hS (fun _ _ h => h) (fun _ h => h) (fun u t H1 locs1 ht _ _ hB _ _ hS1 => kk H1 locs1 (by dsimp only at hB; rw [ht] at hB; exact hB) hS1)
set_option maxHeartbeats 4000000 in
set_option maxRecDepth 100000 in
theorem c_X6_settle (l : Launch) {D : va_G} {cy : Nat → ClassId} {sa : Nat → Nat} {de B : Nat} {ad : Ad} {S : St} {n : Nat → Nat} {T : St} {k : Nat → Nat} {th : Int32} {X : Rl} {i : Nat} {kk st : Int32} {o : Option Nat} (ho : kro ad kk = o) : Met l yX6_settle (Cond.code yX6_settle cX6_settle 4 (Option.none : Option Jvm.ClassFile.FieldType) :: G0) ({ frames := 4, cells := 0, slots := 0, locals := 87 } : Room) (va_Pc [.ref (ad 0 0 0), .ref (ad 3 i 0), va_rf o, .int st] (PW D cy sa de B ad (Vw cy de ad S n T k th X) (i < n 4 ∧ WF S n ∧ (kk = -1 ∨ ∃ q, q < n 2 ∧ kk = nI q) ∧ chP st))) (oV B (fun H => GW D B ad (Vw cy de ad (stlS S i kk st (n 3)) n T k th X) H)) 0 0 (AB B) := by
  by_cases hkm : kk = -1
  · skip
    subst hkm
    rw [kro_none rfl] at ho
    subst ho
    refine E_met (own := RX6) rfl rfl (Nat.le_of_ble_eq_true rfl) ?_
    intro p e s m below meth c hC hr hlk hnm hG h0 ls hl
    have hx := hC.x
    have hb := hC.b
    have hS : va_S (AB B) s.heap s.heap [] := va_S.rf
    have hl : lo ls 4 [some (.ref (ad 0 0 0)), some (.ref (ad 3 i 0)), some (va_rf none), some (.int st)] := lo_of hl
    obtain ⟨hi, hW, -, hch⟩ := h0
    have hW9 := hW
    obtain ⟨hB0, hB1, hB2, hB3, hB4, hB5, hB6, hB7, hKI, hEI, hKY⟩ := hW9
    refine o_aload_n hx hb dX6_settle_0 hl rfl ?_
    refine g_get hC hG us_X0 rfl 7 (by decide) fl_X6_157 (V_ath (by omega)) rfl dX6_settle_1 ?_
    rcases hKI i (by omega) with hk1 | ⟨q1, hq1, hk1⟩
    · skip
      rw [kro_null (show _ = -1 by exact hk1)]
      refine o_aload_nq (x := none) hx hb dX6_settle_4 hl rfl ?_
      refine lv_acmp_eq (tgt := 13) (rx := none) (ry := none) hx hb dX6_settle_5 (by decide) (fun h5 => ?_) (fun h5 => ?_)
      · skip
        refine o_aload_n hx hb dX6_settle_13 hl rfl ?_
        refine o_aload_nq (x := none) hx hb dX6_settle_14 hl rfl ?_
        refine g_put hC hG hS us_X0 tyX0_ok nmX0 rfl 7 (by decide) fl_X6_157 rfl (V_ath (by omega)) rfl rfl (Nat.le_of_ble_eq_true rfl) (P_ath_kindN (by omega)) dX6_settle_15 (fun H locs hG hS => ?_)
        refine o_aload_n hx hb dX6_settle_18 hl rfl ?_
        refine o_iload_n hx hb dX6_settle_19 hl rfl ?_
        refine g_put hC hG hS us_X0 tyX0_ok nmX0 rfl 6 (by decide) fl_X6_141 rfl (V_ath (by omega)) hch.1 hch.2 (Nat.le_of_ble_eq_true rfl) (P_ath_status (by omega)) dX6_settle_20 (fun H locs hG hS => ?_)
        refine o_aload_n hx hb dX6_settle_23 hl rfl ?_
        refine o_aload_n hx hb dX6_settle_24 hl rfl ?_
        refine g_get hC hG us_X6 rfl 5 (by decide) fl_X6_197 V_games rfl dX6_settle_25 ?_
        try rw [show ∀ a b : Int32, (up3 (up3 (dropS S i (n 3)) 10 i 0 a) 9 i 0 b) 23 0 0 = S 23 0 0 from fun a b => congrFun (congrFun (dropS_o (n 3) (by decide) (by decide)) 0) 0]
        refine lv_iconst (v := 2) hx hb dX6_settle_28 (by decide) ?_
        refine lv_iadd hx hb dX6_settle_29 ?_
        refine g_put hC hG hS us_X0 tyX0_ok nmX0 rfl 8 (by decide) fl_X6_205 rfl (V_ath (by omega)) rfl rfl (Nat.le_of_ble_eq_true rfl) (P_ath_until (by omega)) dX6_settle_30 (fun H locs hG hS => ?_)
        refine o_aload_nq (x := none) hx hb dX6_settle_33 hl rfl ?_
        refine lv_ifnonnullN hx hb dX6_settle_34 ?_
        refine o_aload_n hx hb dX6_settle_37 hl rfl ?_
        refine lv_iconst (v := 0) hx hb dX6_settle_38 (by decide) ?_
        refine g_put hC hG hS us_X0 tyX0_ok nmX0 rfl 9 (by decide) fl_X6_368 rfl (V_ath (by omega)) rfl rfl (Nat.le_of_ble_eq_true rfl) (P_ath_stands (by omega)) dX6_settle_39 (fun H locs hG hS => ?_)
        exact R_V hC hS hr hlk (by first | (rw [stlS_1 hk1]; exact hG) | (rw [stlS_2 (by rw [hk1]; exact nI_ne_m1 (by omega))]; exact hG) | (rw [stlS_3 (nI_ne_m1 (by omega)) (by rw [hk1, h5])]; exact hG) | (rw [stlS_4 (nI_ne_m1 (by omega)) (by rw [hk1]; exact fun z => nI_ne_m1 (by omega) z.symm)]; exact hG) | (rw [stlS_4 (nI_ne_m1 (by omega)) (by rw [hk1]; exact fun z => h5 ((nI_eq (by omega) (by omega)).mp z))]; exact hG)) (Nat.le_of_ble_eq_true rfl) (Nat.le_of_ble_eq_true rfl) dX6_settle_42
      · exact absurd rfl h5
    · skip
      rw [kro_ref (show _ = nI q1 by exact hk1) (by omega)]
      refine o_aload_nq (x := none) hx hb dX6_settle_4 hl rfl ?_
      refine lv_acmp_eq (tgt := 13) (rx := (some (ad 7 q1 0))) (ry := none) hx hb dX6_settle_5 (by decide) (fun h5 => ?_) (fun h5 => ?_)
      · exact absurd h5 (by simp)
      · skip
        refine o_aload_n hx hb dX6_settle_8 hl rfl ?_
        refine o_aload_n hx hb dX6_settle_9 hl rfl ?_
        refine k_X6_dropOpenEntries hC hS hG ⟨by omega, hW⟩ ml_X6_427 ⟨Nat.le_of_ble_eq_true rfl, Nat.le_of_ble_eq_true rfl⟩ hl.1 (Nat.le_of_ble_eq_true rfl) dX6_settle_10 ⟨Nat.le_of_ble_eq_true rfl, Nat.le_of_ble_eq_true rfl⟩ (fun H locs hG hS => ?_)
        refine o_aload_n hx hb dX6_settle_13 hl rfl ?_
        refine o_aload_nq (x := none) hx hb dX6_settle_14 hl rfl ?_
        refine g_put hC hG hS us_X0 tyX0_ok nmX0 rfl 7 (by decide) fl_X6_157 rfl (V_ath (by omega)) rfl rfl (Nat.le_of_ble_eq_true rfl) (P_ath_kindN (by omega)) dX6_settle_15 (fun H locs hG hS => ?_)
        refine o_aload_n hx hb dX6_settle_18 hl rfl ?_
        refine o_iload_n hx hb dX6_settle_19 hl rfl ?_
        refine g_put hC hG hS us_X0 tyX0_ok nmX0 rfl 6 (by decide) fl_X6_141 rfl (V_ath (by omega)) hch.1 hch.2 (Nat.le_of_ble_eq_true rfl) (P_ath_status (by omega)) dX6_settle_20 (fun H locs hG hS => ?_)
        refine o_aload_n hx hb dX6_settle_23 hl rfl ?_
        refine o_aload_n hx hb dX6_settle_24 hl rfl ?_
        refine g_get hC hG us_X6 rfl 5 (by decide) fl_X6_197 V_games rfl dX6_settle_25 ?_
        try rw [show ∀ a b : Int32, (up3 (up3 (dropS S i (n 3)) 10 i 0 a) 9 i 0 b) 23 0 0 = S 23 0 0 from fun a b => congrFun (congrFun (dropS_o (n 3) (by decide) (by decide)) 0) 0]
        refine lv_iconst (v := 2) hx hb dX6_settle_28 (by decide) ?_
        refine lv_iadd hx hb dX6_settle_29 ?_
        refine g_put hC hG hS us_X0 tyX0_ok nmX0 rfl 8 (by decide) fl_X6_205 rfl (V_ath (by omega)) rfl rfl (Nat.le_of_ble_eq_true rfl) (P_ath_until (by omega)) dX6_settle_30 (fun H locs hG hS => ?_)
        refine o_aload_nq (x := none) hx hb dX6_settle_33 hl rfl ?_
        refine lv_ifnonnullN hx hb dX6_settle_34 ?_
        refine o_aload_n hx hb dX6_settle_37 hl rfl ?_
        refine lv_iconst (v := 0) hx hb dX6_settle_38 (by decide) ?_
        refine g_put hC hG hS us_X0 tyX0_ok nmX0 rfl 9 (by decide) fl_X6_368 rfl (V_ath (by omega)) rfl rfl (Nat.le_of_ble_eq_true rfl) (P_ath_stands (by omega)) dX6_settle_39 (fun H locs hG hS => ?_)
        exact R_V hC hS hr hlk (by first | (rw [stlS_1 hk1]; exact hG) | (rw [stlS_2 (by rw [hk1]; exact nI_ne_m1 (by omega))]; exact hG) | (rw [stlS_3 (nI_ne_m1 (by omega)) (by rw [hk1, h5])]; exact hG) | (rw [stlS_4 (nI_ne_m1 (by omega)) (by rw [hk1]; exact fun z => nI_ne_m1 (by omega) z.symm)]; exact hG) | (rw [stlS_4 (nI_ne_m1 (by omega)) (by rw [hk1]; exact fun z => h5 ((nI_eq (by omega) (by omega)).mp z))]; exact hG)) (Nat.le_of_ble_eq_true rfl) (Nat.le_of_ble_eq_true rfl) dX6_settle_42
  · skip
    by_cases hkq : ∃ q, q < 2 ^ 31 ∧ kk = nI q
    · skip
      obtain ⟨q0, hq31, rfl⟩ := hkq
      rw [kro_some rfl hq31] at ho
      subst ho
      refine E_met (own := RX6) rfl rfl (Nat.le_of_ble_eq_true rfl) ?_
      intro p e s m below meth c hC hr hlk hnm hG h0 ls hl
      have hx := hC.x
      have hb := hC.b
      have hS : va_S (AB B) s.heap s.heap [] := va_S.rf
      have hl : lo ls 4 [some (.ref (ad 0 0 0)), some (.ref (ad 3 i 0)), some (.ref (ad 7 q0 0)), some (.int st)] := lo_of hl
      obtain ⟨hi, hW, hkk, hch⟩ := h0
      have hq0 : q0 < n 2 := by
        rcases hkk with z | ⟨q, h1, h2⟩
        · exact absurd z hkm
        · have hn2 : n 2 ≤ 8 := hW.2.2.1
          rw [(nI_eq hq31 (by omega)).mp h2]; exact h1
      have hW9 := hW
      obtain ⟨hB0, hB1, hB2, hB3, hB4, hB5, hB6, hB7, hKI, hEI, hKY⟩ := hW9
      refine o_aload_n hx hb dX6_settle_0 hl rfl ?_
      refine g_get hC hG us_X0 rfl 7 (by decide) fl_X6_157 (V_ath (by omega)) rfl dX6_settle_1 ?_
      rcases hKI i (by omega) with hk1 | ⟨q1, hq1, hk1⟩
      · skip
        rw [kro_null (show _ = -1 by exact hk1)]
        refine o_aload_n hx hb dX6_settle_4 hl rfl ?_
        refine lv_acmp_eq (tgt := 13) (rx := none) (ry := (some (ad 7 q0 0))) hx hb dX6_settle_5 (by decide) (fun h5 => ?_) (fun h5 => ?_)
        · exact absurd h5 (by simp)
        · skip
          refine o_aload_n hx hb dX6_settle_8 hl rfl ?_
          refine o_aload_n hx hb dX6_settle_9 hl rfl ?_
          refine k_X6_dropOpenEntries hC hS hG ⟨by omega, hW⟩ ml_X6_427 ⟨Nat.le_of_ble_eq_true rfl, Nat.le_of_ble_eq_true rfl⟩ hl.1 (Nat.le_of_ble_eq_true rfl) dX6_settle_10 ⟨Nat.le_of_ble_eq_true rfl, Nat.le_of_ble_eq_true rfl⟩ (fun H locs hG hS => ?_)
          refine o_aload_n hx hb dX6_settle_13 hl rfl ?_
          refine o_aload_n hx hb dX6_settle_14 hl rfl ?_
          refine g_put hC hG hS us_X0 tyX0_ok nmX0 rfl 7 (by decide) fl_X6_157 rfl (V_ath (by omega)) rfl rfl (Nat.le_of_ble_eq_true rfl) (P_ath_kindQ (by omega) (by omega)) dX6_settle_15 (fun H locs hG hS => ?_)
          refine o_aload_n hx hb dX6_settle_18 hl rfl ?_
          refine o_iload_n hx hb dX6_settle_19 hl rfl ?_
          refine g_put hC hG hS us_X0 tyX0_ok nmX0 rfl 6 (by decide) fl_X6_141 rfl (V_ath (by omega)) hch.1 hch.2 (Nat.le_of_ble_eq_true rfl) (P_ath_status (by omega)) dX6_settle_20 (fun H locs hG hS => ?_)
          refine o_aload_n hx hb dX6_settle_23 hl rfl ?_
          refine o_aload_n hx hb dX6_settle_24 hl rfl ?_
          refine g_get hC hG us_X6 rfl 5 (by decide) fl_X6_197 V_games rfl dX6_settle_25 ?_
          try rw [show ∀ a b : Int32, (up3 (up3 (dropS S i (n 3)) 10 i 0 a) 9 i 0 b) 23 0 0 = S 23 0 0 from fun a b => congrFun (congrFun (dropS_o (n 3) (by decide) (by decide)) 0) 0]
          refine lv_iconst (v := 2) hx hb dX6_settle_28 (by decide) ?_
          refine lv_iadd hx hb dX6_settle_29 ?_
          refine g_put hC hG hS us_X0 tyX0_ok nmX0 rfl 8 (by decide) fl_X6_205 rfl (V_ath (by omega)) rfl rfl (Nat.le_of_ble_eq_true rfl) (P_ath_until (by omega)) dX6_settle_30 (fun H locs hG hS => ?_)
          refine o_aload_n hx hb dX6_settle_33 hl rfl ?_
          refine lv_ifnonnull (tgt := 42) hx hb dX6_settle_34 (by decide) ?_
          exact R_V hC hS hr hlk (by first | (rw [stlS_1 hk1]; exact hG) | (rw [stlS_2 (by rw [hk1]; exact nI_ne_m1 (by omega))]; exact hG) | (rw [stlS_3 (nI_ne_m1 (by omega)) (by rw [hk1, h5])]; exact hG) | (rw [stlS_4 (nI_ne_m1 (by omega)) (by rw [hk1]; exact fun z => nI_ne_m1 (by omega) z.symm)]; exact hG) | (rw [stlS_4 (nI_ne_m1 (by omega)) (by rw [hk1]; exact fun z => h5 ((nI_eq (by omega) (by omega)).mp z))]; exact hG)) (Nat.le_of_ble_eq_true rfl) (Nat.le_of_ble_eq_true rfl) dX6_settle_42
      · skip
        rw [kro_ref (show _ = nI q1 by exact hk1) (by omega)]
        refine o_aload_n hx hb dX6_settle_4 hl rfl ?_
        refine lv_acmp_eq (tgt := 13) (rx := (some (ad 7 q1 0))) (ry := (some (ad 7 q0 0))) hx hb dX6_settle_5 (by decide) (fun h5 => ?_) (fun h5 => ?_)
        · skip
          have h5 : q1 = q0 := (hG.inj (V_kind (by omega)) (V_kind (by omega)) (Option.some.inj h5)).2.1
          refine o_aload_n hx hb dX6_settle_13 hl rfl ?_
          refine o_aload_n hx hb dX6_settle_14 hl rfl ?_
          refine g_put hC hG hS us_X0 tyX0_ok nmX0 rfl 7 (by decide) fl_X6_157 rfl (V_ath (by omega)) rfl rfl (Nat.le_of_ble_eq_true rfl) (P_ath_kindQ (by omega) (by omega)) dX6_settle_15 (fun H locs hG hS => ?_)
          refine o_aload_n hx hb dX6_settle_18 hl rfl ?_
          refine o_iload_n hx hb dX6_settle_19 hl rfl ?_
          refine g_put hC hG hS us_X0 tyX0_ok nmX0 rfl 6 (by decide) fl_X6_141 rfl (V_ath (by omega)) hch.1 hch.2 (Nat.le_of_ble_eq_true rfl) (P_ath_status (by omega)) dX6_settle_20 (fun H locs hG hS => ?_)
          refine o_aload_n hx hb dX6_settle_23 hl rfl ?_
          refine o_aload_n hx hb dX6_settle_24 hl rfl ?_
          refine g_get hC hG us_X6 rfl 5 (by decide) fl_X6_197 V_games rfl dX6_settle_25 ?_
          try rw [show ∀ a b : Int32, (up3 (up3 (dropS S i (n 3)) 10 i 0 a) 9 i 0 b) 23 0 0 = S 23 0 0 from fun a b => congrFun (congrFun (dropS_o (n 3) (by decide) (by decide)) 0) 0]
          refine lv_iconst (v := 2) hx hb dX6_settle_28 (by decide) ?_
          refine lv_iadd hx hb dX6_settle_29 ?_
          refine g_put hC hG hS us_X0 tyX0_ok nmX0 rfl 8 (by decide) fl_X6_205 rfl (V_ath (by omega)) rfl rfl (Nat.le_of_ble_eq_true rfl) (P_ath_until (by omega)) dX6_settle_30 (fun H locs hG hS => ?_)
          refine o_aload_n hx hb dX6_settle_33 hl rfl ?_
          refine lv_ifnonnull (tgt := 42) hx hb dX6_settle_34 (by decide) ?_
          exact R_V hC hS hr hlk (by first | (rw [stlS_1 hk1]; exact hG) | (rw [stlS_2 (by rw [hk1]; exact nI_ne_m1 (by omega))]; exact hG) | (rw [stlS_3 (nI_ne_m1 (by omega)) (by rw [hk1, h5])]; exact hG) | (rw [stlS_4 (nI_ne_m1 (by omega)) (by rw [hk1]; exact fun z => nI_ne_m1 (by omega) z.symm)]; exact hG) | (rw [stlS_4 (nI_ne_m1 (by omega)) (by rw [hk1]; exact fun z => h5 ((nI_eq (by omega) (by omega)).mp z))]; exact hG)) (Nat.le_of_ble_eq_true rfl) (Nat.le_of_ble_eq_true rfl) dX6_settle_42
        · skip
          have h5 : ¬ q1 = q0 := fun z => h5 (by rw [z])
          refine o_aload_n hx hb dX6_settle_8 hl rfl ?_
          refine o_aload_n hx hb dX6_settle_9 hl rfl ?_
          refine k_X6_dropOpenEntries hC hS hG ⟨by omega, hW⟩ ml_X6_427 ⟨Nat.le_of_ble_eq_true rfl, Nat.le_of_ble_eq_true rfl⟩ hl.1 (Nat.le_of_ble_eq_true rfl) dX6_settle_10 ⟨Nat.le_of_ble_eq_true rfl, Nat.le_of_ble_eq_true rfl⟩ (fun H locs hG hS => ?_)
          refine o_aload_n hx hb dX6_settle_13 hl rfl ?_
          refine o_aload_n hx hb dX6_settle_14 hl rfl ?_
          refine g_put hC hG hS us_X0 tyX0_ok nmX0 rfl 7 (by decide) fl_X6_157 rfl (V_ath (by omega)) rfl rfl (Nat.le_of_ble_eq_true rfl) (P_ath_kindQ (by omega) (by omega)) dX6_settle_15 (fun H locs hG hS => ?_)
          refine o_aload_n hx hb dX6_settle_18 hl rfl ?_
          refine o_iload_n hx hb dX6_settle_19 hl rfl ?_
          refine g_put hC hG hS us_X0 tyX0_ok nmX0 rfl 6 (by decide) fl_X6_141 rfl (V_ath (by omega)) hch.1 hch.2 (Nat.le_of_ble_eq_true rfl) (P_ath_status (by omega)) dX6_settle_20 (fun H locs hG hS => ?_)
          refine o_aload_n hx hb dX6_settle_23 hl rfl ?_
          refine o_aload_n hx hb dX6_settle_24 hl rfl ?_
          refine g_get hC hG us_X6 rfl 5 (by decide) fl_X6_197 V_games rfl dX6_settle_25 ?_
          try rw [show ∀ a b : Int32, (up3 (up3 (dropS S i (n 3)) 10 i 0 a) 9 i 0 b) 23 0 0 = S 23 0 0 from fun a b => congrFun (congrFun (dropS_o (n 3) (by decide) (by decide)) 0) 0]
          refine lv_iconst (v := 2) hx hb dX6_settle_28 (by decide) ?_
          refine lv_iadd hx hb dX6_settle_29 ?_
          refine g_put hC hG hS us_X0 tyX0_ok nmX0 rfl 8 (by decide) fl_X6_205 rfl (V_ath (by omega)) rfl rfl (Nat.le_of_ble_eq_true rfl) (P_ath_until (by omega)) dX6_settle_30 (fun H locs hG hS => ?_)
          refine o_aload_n hx hb dX6_settle_33 hl rfl ?_
          refine lv_ifnonnull (tgt := 42) hx hb dX6_settle_34 (by decide) ?_
          exact R_V hC hS hr hlk (by first | (rw [stlS_1 hk1]; exact hG) | (rw [stlS_2 (by rw [hk1]; exact nI_ne_m1 (by omega))]; exact hG) | (rw [stlS_3 (nI_ne_m1 (by omega)) (by rw [hk1, h5])]; exact hG) | (rw [stlS_4 (nI_ne_m1 (by omega)) (by rw [hk1]; exact fun z => nI_ne_m1 (by omega) z.symm)]; exact hG) | (rw [stlS_4 (nI_ne_m1 (by omega)) (by rw [hk1]; exact fun z => h5 ((nI_eq (by omega) (by omega)).mp z))]; exact hG)) (Nat.le_of_ble_eq_true rfl) (Nat.le_of_ble_eq_true rfl) dX6_settle_42
    · skip
      refine E_met (own := RX6) rfl rfl (by cases o <;> exact Nat.le_of_ble_eq_true rfl) ?_
      intro p e s m below meth c hC hr hlk hnm hG h0
      exact (h0.2.2.1.elim hkm (fun ⟨q, h1, h2⟩ => hkq ⟨q, by have := h0.2.1.2.2.1; omega, h2⟩)).elim
theorem k_X6_settle {p : Program} {l : Launch} {e : Env} {R : Room} {s : State} {m : MethodId} {args : Array Value} {below : List Frame} {meth : Method} {c : Code} {H : Heap} {locs : List Loc} {cells slots : Nat} {Q : State → Prop} {cc : ByteArray} {pc nL : Nat} {ls : Array Slot} {rest : List Value} {own : String} {D : va_G} {cy : Nat → ClassId} {sa : Nat → Nat} {de B : Nat} {ad : Ad} {S : St} {n : Nat → Nat} {T : St} {k : Nat → Nat} {th : Int32} {X : Rl} {i : Nat} {kk st : Int32} {o : Option Nat}  (hC : Cx p m c cc nL s args own D cy sa de B) (hS : va_S (AB B) s.heap H locs) (hG : GW D B ad (Vw cy de ad S n T k th X) H) (h0 : i < n 4 ∧ WF S n ∧ (kk = -1 ∨ ∃ q, q < n 2 ∧ kk = nI q) ∧ chP st) (ho : kro ad kk = o) {idx : Nat} (wl : Cond.methodLink own idx yX6_settle ∈ G0) (hR : 4 + 1 ≤ R.frames ∧ 8 + (4 + 11) + 87 ≤ R.locals) (hsz : ls.size = nL) (hst : (rest.map fun v => v.category).sum ≤ 8) (hdg : decode cc pc = .ok (.invokevirtual idx, 3)) (hcs : cells + 0 ≤ R.cells ∧ slots + 0 ≤ R.slots) (kk : ∀ (H1 : Heap) (locs1 : List Loc), ((fun H => GW D B ad (Vw cy de ad (stlS S i kk st (n 3)) n T k th X) H)) H1 → va_S (AB B) s.heap H1 locs1 → W p l e R s m args below meth c H1 locs1 cells slots Q (F0 m (pc + 3) ls (rest))) : W p l e R s m args below meth c H locs cells slots Q (F0 m pc ls (.int st :: va_rf o :: .ref (ad 3 i 0) :: .ref (ad 0 0 0) :: rest)) :=
  va_callv (rV hC hS hG h0 (As := [.ref (ad 3 i 0), va_rf o, .int st]) (c_X6_settle l ho) ⟨rfl, rfl⟩ wl im_X6_settle sl_X6_X6_settle in_X6 cd_X6_settle (n := 3) (by decide +kernel) hR (recv hC hG (q := (RX6, TX6, 6)) rfl V_games) rfl hsz hst rfl hdg hcs) hS (fun _ _ h => h) (fun _ h => h) (fun u t H1 locs1 ht _ _ hB _ _ hS1 => kk H1 locs1 (by dsimp only at hB; rw [ht] at hB; exact hB) hS1)
set_option maxHeartbeats 4000000 in
set_option maxRecDepth 100000 in
theorem c_X6_settleByFound (l : Launch) {D : va_G} {cy : Nat → ClassId} {sa : Nat → Nat} {de B : Nat} {ad : Ad} {S : St} {n : Nat → Nat} {T : St} {k : Nat → Nat} {th : Int32} {X : Rl} {i : Nat} {st : Int32}  : Met l yX6_settleByFound (Cond.code yX6_settleByFound cX6_settleByFound 4 (Option.none : Option Jvm.ClassFile.FieldType) :: G0) ({ frames := 5, cells := 0, slots := 0, locals := 110 } : Room) (va_Pc [.ref (ad 0 0 0), .ref (ad 3 i 0), .int st] (PW D cy sa de B ad (Vw cy de ad S n T k th X) (i < n 4 ∧ WF S n ∧ chP st))) (oV B (fun H => GW D B ad (Vw cy de ad (sbfS S n i st) n T k th X) H)) 0 0 (AB B) := by
  refine E_met (own := RX6) rfl rfl (Nat.le_of_ble_eq_true rfl) ?_
  intro p e s m below meth c hC hr hlk hnm hG h0 ls hl
  have hx := hC.x
  have hb := hC.b
  have hS : va_S (AB B) s.heap s.heap [] := va_S.rf
  have hl : lo ls 4 [some (.ref (ad 0 0 0)), some (.ref (ad 3 i 0)), some (.int st), none] := lo_of hl
  obtain ⟨hi, hW, hch⟩ := h0
  have hW9 := hW
  obtain ⟨hB0, hB1, hB2, hB3, hB4, hB5, hB6, hB7, hKI, hEI, hKY⟩ := hW9
  
  refine o_aload_n hx hb dX6_settleByFound_0 hl rfl ?_
  refine o_aload_n hx hb dX6_settleByFound_1 hl rfl ?_
  refine g_get hC hG us_X0 rfl 4 (by decide) fl_X6_95 (V_ath (by omega)) rfl dX6_settleByFound_2 ?_
  refine k_X6_kindAround hC hS hG ⟨by omega, by omega, hW⟩ ml_X6_123 ⟨Nat.le_of_ble_eq_true rfl, Nat.le_of_ble_eq_true rfl⟩ hl.1 (Nat.le_of_ble_eq_true rfl) dX6_settleByFound_5 ⟨Nat.le_of_ble_eq_true rfl, Nat.le_of_ble_eq_true rfl⟩ (fun h5_0 => ?_) (fun q5 h5_0 h5_1 => ?_)
  · skip
    refine o_astore_nq (x := none) hx hb dX6_settleByFound_8 hl (by decide) rfl (fun ls hl => ?_)
    refine o_aload_n hx hb dX6_settleByFound_9 hl rfl ?_
    refine o_aload_n hx hb dX6_settleByFound_10 hl rfl ?_
    refine o_aload_nq (x := none) hx hb dX6_settleByFound_11 hl rfl ?_
    refine o_aload_nq (x := none) hx hb dX6_settleByFound_12 hl rfl ?_
    refine lv_ifnonnullN hx hb dX6_settleByFound_13 ?_
    refine lv_bipush (v := 101) hx hb dX6_settleByFound_16 (by decide) ?_
    refine lv_goto (tgt := 22) hx hb dX6_settleByFound_18 (by decide) ?_
    refine k_X6_settle (o := none) (kk := (-1)) hC hS hG ⟨by omega, hW, Or.inl rfl, by first | exact ⟨rfl, rfl⟩ | assumption⟩ (kro_none rfl) ml_X6_193 ⟨Nat.le_of_ble_eq_true rfl, Nat.le_of_ble_eq_true rfl⟩ hl.1 (Nat.le_of_ble_eq_true rfl) dX6_settleByFound_22 ⟨Nat.le_of_ble_eq_true rfl, Nat.le_of_ble_eq_true rfl⟩ (fun H locs hG hS => ?_)
    exact R_V hC hS hr hlk (by first | (rw [sbfS_n h5_0]; exact hG) | (rw [sbfS_q (by omega) h5_1]; exact hG)) (Nat.le_of_ble_eq_true rfl) (Nat.le_of_ble_eq_true rfl) dX6_settleByFound_25
  · skip
    refine o_astore_n hx hb dX6_settleByFound_8 hl (by decide) rfl (fun ls hl => ?_)
    refine o_aload_n hx hb dX6_settleByFound_9 hl rfl ?_
    refine o_aload_n hx hb dX6_settleByFound_10 hl rfl ?_
    refine o_aload_n hx hb dX6_settleByFound_11 hl rfl ?_
    refine o_aload_n hx hb dX6_settleByFound_12 hl rfl ?_
    refine lv_ifnonnull (tgt := 21) hx hb dX6_settleByFound_13 (by decide) ?_
    refine o_iload_n hx hb dX6_settleByFound_21 hl rfl ?_
    refine k_X6_settle (o := some (ad 7 q5 0)) (kk := (nI q5)) hC hS hG ⟨by omega, hW, Or.inr ⟨_, by omega, rfl⟩, by first | exact ⟨rfl, rfl⟩ | assumption⟩ (kro_some rfl (by omega)) ml_X6_193 ⟨Nat.le_of_ble_eq_true rfl, Nat.le_of_ble_eq_true rfl⟩ hl.1 (Nat.le_of_ble_eq_true rfl) dX6_settleByFound_22 ⟨Nat.le_of_ble_eq_true rfl, Nat.le_of_ble_eq_true rfl⟩ (fun H locs hG hS => ?_)
    exact R_V hC hS hr hlk (by first | (rw [sbfS_n h5_0]; exact hG) | (rw [sbfS_q (by omega) h5_1]; exact hG)) (Nat.le_of_ble_eq_true rfl) (Nat.le_of_ble_eq_true rfl) dX6_settleByFound_25
theorem k_X6_settleByFound {p : Program} {l : Launch} {e : Env} {R : Room} {s : State} {m : MethodId} {args : Array Value} {below : List Frame} {meth : Method} {c : Code} {H : Heap} {locs : List Loc} {cells slots : Nat} {Q : State → Prop} {cc : ByteArray} {pc nL : Nat} {ls : Array Slot} {rest : List Value} {own : String} {D : va_G} {cy : Nat → ClassId} {sa : Nat → Nat} {de B : Nat} {ad : Ad} {S : St} {n : Nat → Nat} {T : St} {k : Nat → Nat} {th : Int32} {X : Rl} {i : Nat} {st : Int32}  (hC : Cx p m c cc nL s args own D cy sa de B) (hS : va_S (AB B) s.heap H locs) (hG : GW D B ad (Vw cy de ad S n T k th X) H) (h0 : i < n 4 ∧ WF S n ∧ chP st)  {idx : Nat} (wl : Cond.methodLink own idx yX6_settleByFound ∈ G0) (hR : 5 + 1 ≤ R.frames ∧ 8 + (4 + 11) + 110 ≤ R.locals) (hsz : ls.size = nL) (hst : (rest.map fun v => v.category).sum ≤ 8) (hdg : decode cc pc = .ok (.invokevirtual idx, 3)) (hcs : cells + 0 ≤ R.cells ∧ slots + 0 ≤ R.slots) (kk : ∀ (H1 : Heap) (locs1 : List Loc), ((fun H => GW D B ad (Vw cy de ad (sbfS S n i st) n T k th X) H)) H1 → va_S (AB B) s.heap H1 locs1 → W p l e R s m args below meth c H1 locs1 cells slots Q (F0 m (pc + 3) ls (rest))) : W p l e R s m args below meth c H locs cells slots Q (F0 m pc ls (.int st :: .ref (ad 3 i 0) :: .ref (ad 0 0 0) :: rest)) :=
  va_callv (rV hC hS hG h0 (As := [.ref (ad 3 i 0), .int st]) (c_X6_settleByFound l) ⟨rfl, rfl⟩ wl im_X6_settleByFound sl_X6_X6_settleByFound in_X6 cd_X6_settleByFound (n := 2) (by decide +kernel) hR (recv hC hG (q := (RX6, TX6, 6)) rfl V_games) rfl hsz hst rfl hdg hcs) hS (fun _ _ h => h) (fun _ h => h) (fun u t H1 locs1 ht _ _ hB _ _ hS1 => kk H1 locs1 (by dsimp only at hB; rw [ht] at hB; exact hB) hS1)
set_option maxHeartbeats 4000000 in
set_option maxRecDepth 100000 in
theorem c_X6_examine (l : Launch) {D : va_G} {cy : Nat → ClassId} {sa : Nat → Nat} {de B : Nat} {ad : Ad} {S : St} {n : Nat → Nat} {T : St} {k : Nat → Nat} {th : Int32} {X : Rl} {i : Nat}  : Met l yX6_examine (Cond.code yX6_examine cX6_examine 3 (Option.none : Option Jvm.ClassFile.FieldType) :: G0) ({ frames := 6, cells := 0, slots := 0, locals := 133 } : Room) (va_Pc [.ref (ad 0 0 0), .ref (ad 3 i 0)] (PW D cy sa de B ad (Vw cy de ad S n T k th X) (i < n 4 ∧ WF S n))) (oV B (fun H => GW D B ad (Vw cy de ad (exS S n i) n T k th X) H)) 0 0 (AB B) := by
  refine E_met (own := RX6) rfl rfl (Nat.le_of_ble_eq_true rfl) ?_
  intro p e s m below meth c hC hr hlk hnm hG h0 ls hl
  have hx := hC.x
  have hb := hC.b
  have hS : va_S (AB B) s.heap s.heap [] := va_S.rf
  have hl : lo ls 3 [some (.ref (ad 0 0 0)), some (.ref (ad 3 i 0)), none] := lo_of hl
  obtain ⟨hi, hW⟩ := h0
  have hW9 := hW
  obtain ⟨hB0, hB1, hB2, hB3, hB4, hB5, hB6, hB7, hKI, hEI, hKY⟩ := hW9
  
  refine o_aload_n hx hb dX6_examine_0 hl rfl ?_
  refine g_get hC hG us_X0 rfl 2 (by decide) fl_X6_65 (V_ath (by omega)) rfl dX6_examine_1 ?_
  refine o_aload_n hx hb dX6_examine_4 hl rfl ?_
  refine g_get hC hG us_X0 rfl 4 (by decide) fl_X6_95 (V_ath (by omega)) rfl dX6_examine_5 ?_
  refine k_X5_isFarAbove hC hS hG ⟨by omega, by omega, by omega, by omega⟩ ml_X6_421 ⟨Nat.le_of_ble_eq_true rfl, Nat.le_of_ble_eq_true rfl⟩ hl.1 (Nat.le_of_ble_eq_true rfl) dX6_examine_8 ⟨Nat.le_of_ble_eq_true rfl, Nat.le_of_ble_eq_true rfl⟩ (fun h8 => ?_) (fun h8 => ?_)
  · skip
    refine o_istore_n hx hb dX6_examine_11 hl (by decide) rfl (fun ls hl => ?_)
    refine o_aload_n hx hb dX6_examine_12 hl rfl ?_
    refine k_X0_findWhatIs hC hS hG (by omega) ml_X6_424 ⟨Nat.le_of_ble_eq_true rfl, Nat.le_of_ble_eq_true rfl⟩ hl.1 (Nat.le_of_ble_eq_true rfl) dX6_examine_13 ⟨Nat.le_of_ble_eq_true rfl, Nat.le_of_ble_eq_true rfl⟩ (fun H locs hG hS => ?_)
    have hG : GW D B ad (Vw cy de ad (fiS S i) n T k th X) H := hG
    refine o_iload_n hx hb dX6_examine_16 hl rfl ?_
    refine lv_if_eq (tgt := 31) hx hb dX6_examine_17 (by decide) (fun h17 => ?_) (fun h17 => ?_)
    · exact absurd h17 (by decide)
    · skip
      refine o_aload_n hx hb dX6_examine_20 hl rfl ?_
      refine o_aload_n hx hb dX6_examine_21 hl rfl ?_
      refine lv_null hx hb dX6_examine_22 ?_
      refine lv_bipush (v := 120) hx hb dX6_examine_23 (by decide) ?_
      refine k_X6_settle (o := none) (kk := (-1)) hC hS hG ⟨by omega, WF_fi (i := i) hW, Or.inl rfl, ⟨rfl, rfl⟩⟩ (kro_none rfl) ml_X6_193 ⟨Nat.le_of_ble_eq_true rfl, Nat.le_of_ble_eq_true rfl⟩ hl.1 (Nat.le_of_ble_eq_true rfl) dX6_examine_25 ⟨Nat.le_of_ble_eq_true rfl, Nat.le_of_ble_eq_true rfl⟩ (fun H locs hG hS => ?_)
      refine lv_goto (tgt := 38) hx hb dX6_examine_28 (by decide) ?_
      exact R_V hC hS hr hlk (by first | (rw [show exS S n i = _ from cif_t h8]; exact hG) | (rw [show exS S n i = _ from cif_f h8]; exact hG)) (Nat.le_of_ble_eq_true rfl) (Nat.le_of_ble_eq_true rfl) dX6_examine_38
  · skip
    refine o_istore_n hx hb dX6_examine_11 hl (by decide) rfl (fun ls hl => ?_)
    refine o_aload_n hx hb dX6_examine_12 hl rfl ?_
    refine k_X0_findWhatIs hC hS hG (by omega) ml_X6_424 ⟨Nat.le_of_ble_eq_true rfl, Nat.le_of_ble_eq_true rfl⟩ hl.1 (Nat.le_of_ble_eq_true rfl) dX6_examine_13 ⟨Nat.le_of_ble_eq_true rfl, Nat.le_of_ble_eq_true rfl⟩ (fun H locs hG hS => ?_)
    have hG : GW D B ad (Vw cy de ad (fiS S i) n T k th X) H := hG
    refine o_iload_n hx hb dX6_examine_16 hl rfl ?_
    refine lv_if_eq (tgt := 31) hx hb dX6_examine_17 (by decide) (fun h17 => ?_) (fun h17 => ?_)
    · skip
      refine o_aload_n hx hb dX6_examine_31 hl rfl ?_
      refine o_aload_n hx hb dX6_examine_32 hl rfl ?_
      refine lv_bipush (v := 99) hx hb dX6_examine_33 (by decide) ?_
      refine k_X6_settleByFound hC hS hG ⟨by omega, WF_fi (i := i) hW, ⟨rfl, rfl⟩⟩ ml_X6_153 ⟨Nat.le_of_ble_eq_true rfl, Nat.le_of_ble_eq_true rfl⟩ hl.1 (Nat.le_of_ble_eq_true rfl) dX6_examine_35 ⟨Nat.le_of_ble_eq_true rfl, Nat.le_of_ble_eq_true rfl⟩ (fun H locs hG hS => ?_)
      exact R_V hC hS hr hlk (by first | (rw [show exS S n i = _ from cif_t h8]; exact hG) | (rw [show exS S n i = _ from cif_f h8]; exact hG)) (Nat.le_of_ble_eq_true rfl) (Nat.le_of_ble_eq_true rfl) dX6_examine_38
    · exact absurd h17 (by decide)
theorem k_X6_examine {p : Program} {l : Launch} {e : Env} {R : Room} {s : State} {m : MethodId} {args : Array Value} {below : List Frame} {meth : Method} {c : Code} {H : Heap} {locs : List Loc} {cells slots : Nat} {Q : State → Prop} {cc : ByteArray} {pc nL : Nat} {ls : Array Slot} {rest : List Value} {own : String} {D : va_G} {cy : Nat → ClassId} {sa : Nat → Nat} {de B : Nat} {ad : Ad} {S : St} {n : Nat → Nat} {T : St} {k : Nat → Nat} {th : Int32} {X : Rl} {i : Nat}  (hC : Cx p m c cc nL s args own D cy sa de B) (hS : va_S (AB B) s.heap H locs) (hG : GW D B ad (Vw cy de ad S n T k th X) H) (h0 : i < n 4 ∧ WF S n)  {idx : Nat} (wl : Cond.methodLink own idx yX6_examine ∈ G0) (hR : 6 + 1 ≤ R.frames ∧ 8 + (3 + 11) + 133 ≤ R.locals) (hsz : ls.size = nL) (hst : (rest.map fun v => v.category).sum ≤ 8) (hdg : decode cc pc = .ok (.invokevirtual idx, 3)) (hcs : cells + 0 ≤ R.cells ∧ slots + 0 ≤ R.slots) (kk : ∀ (H1 : Heap) (locs1 : List Loc), ((fun H => GW D B ad (Vw cy de ad (exS S n i) n T k th X) H)) H1 → va_S (AB B) s.heap H1 locs1 → W p l e R s m args below meth c H1 locs1 cells slots Q (F0 m (pc + 3) ls (rest))) : W p l e R s m args below meth c H locs cells slots Q (F0 m pc ls (.ref (ad 3 i 0) :: .ref (ad 0 0 0) :: rest)) :=
  va_callv (rV hC hS hG h0 (As := [.ref (ad 3 i 0)]) (c_X6_examine l) ⟨rfl, rfl⟩ wl im_X6_examine sl_X6_X6_examine in_X6 cd_X6_examine (n := 1) (by decide +kernel) hR (recv hC hG (q := (RX6, TX6, 6)) rfl V_games) rfl hsz hst rfl hdg hcs) hS (fun _ _ h => h) (fun _ h => h) (fun u t H1 locs1 ht _ _ hB _ _ hS1 => kk H1 locs1 (by dsimp only at hB; rw [ht] at hB; exact hB) hS1)
set_option maxHeartbeats 4000000 in
set_option maxRecDepth 100000 in
theorem c_X6_endWaiting (l : Launch) {D : va_G} {cy : Nat → ClassId} {sa : Nat → Nat} {de B : Nat} {ad : Ad} {S : St} {n : Nat → Nat} {T : St} {k : Nat → Nat} {th : Int32} {X : Rl} {i : Nat}  : Met l yX6_endWaiting (Cond.code yX6_endWaiting cX6_endWaiting 2 (Option.none : Option Jvm.ClassFile.FieldType) :: G0) ({ frames := 6, cells := 0, slots := 0, locals := 133 } : Room) (va_Pc [.ref (ad 0 0 0), .ref (ad 3 i 0)] (PW D cy sa de B ad (Vw cy de ad S n T k th X) (i < n 4 ∧ WF S n))) (oV B (fun H => GW D B ad (Vw cy de ad (ewS S n i) n T k th X) H)) 0 0 (AB B) := by
  refine E_met (own := RX6) rfl rfl (Nat.le_of_ble_eq_true rfl) ?_
  intro p e s m below meth c hC hr hlk hnm hG h0 ls hl
  have hx := hC.x
  have hb := hC.b
  have hS : va_S (AB B) s.heap s.heap [] := va_S.rf
  have hl : lo ls 2 [some (.ref (ad 0 0 0)), some (.ref (ad 3 i 0))] := lo_of hl
  obtain ⟨hi, hW⟩ := h0
  have hW9 := hW
  obtain ⟨hB0, hB1, hB2, hB3, hB4, hB5, hB6, hB7, hKI, hEI, hKY⟩ := hW9
  
  refine o_aload_n hx hb dX6_endWaiting_0 hl rfl ?_
  refine g_get hC hG us_X0 rfl 6 (by decide) fl_X6_141 (V_ath (by omega)) rfl dX6_endWaiting_1 ?_
  refine lv_bipush (v := 120) hx hb dX6_endWaiting_4 (by decide) ?_
  refine lv_icmp_ne (tgt := 20) hx hb dX6_endWaiting_6 (by decide) (fun h6 => ?_) (fun h6 => ?_)
  · skip
    refine o_aload_n hx hb dX6_endWaiting_20 hl rfl ?_
    refine o_aload_n hx hb dX6_endWaiting_21 hl rfl ?_
    refine lv_bipush (v := 99) hx hb dX6_endWaiting_22 (by decide) ?_
    refine k_X6_settleByFound hC hS hG ⟨by omega, hW, ⟨rfl, rfl⟩⟩ ml_X6_153 ⟨Nat.le_of_ble_eq_true rfl, Nat.le_of_ble_eq_true rfl⟩ hl.1 (Nat.le_of_ble_eq_true rfl) dX6_endWaiting_24 ⟨Nat.le_of_ble_eq_true rfl, Nat.le_of_ble_eq_true rfl⟩ (fun H locs hG hS => ?_)
    exact R_V hC hS hr hlk (by first | (rw [show ewS S n i = _ from cif_t h6]; exact hG) | (rw [show ewS S n i = _ from cif_f h6]; exact hG)) (Nat.le_of_ble_eq_true rfl) (Nat.le_of_ble_eq_true rfl) dX6_endWaiting_27
  · skip
    refine o_aload_n hx hb dX6_endWaiting_9 hl rfl ?_
    refine o_aload_n hx hb dX6_endWaiting_10 hl rfl ?_
    refine lv_null hx hb dX6_endWaiting_11 ?_
    refine lv_bipush (v := 45) hx hb dX6_endWaiting_12 (by decide) ?_
    refine k_X6_settle (o := none) (kk := (-1)) hC hS hG ⟨by omega, hW, Or.inl rfl, by first | exact ⟨rfl, rfl⟩ | assumption⟩ (kro_none rfl) ml_X6_193 ⟨Nat.le_of_ble_eq_true rfl, Nat.le_of_ble_eq_true rfl⟩ hl.1 (Nat.le_of_ble_eq_true rfl) dX6_endWaiting_14 ⟨Nat.le_of_ble_eq_true rfl, Nat.le_of_ble_eq_true rfl⟩ (fun H locs hG hS => ?_)
    refine lv_goto (tgt := 27) hx hb dX6_endWaiting_17 (by decide) ?_
    exact R_V hC hS hr hlk (by first | (rw [show ewS S n i = _ from cif_t h6]; exact hG) | (rw [show ewS S n i = _ from cif_f h6]; exact hG)) (Nat.le_of_ble_eq_true rfl) (Nat.le_of_ble_eq_true rfl) dX6_endWaiting_27
theorem k_X6_endWaiting {p : Program} {l : Launch} {e : Env} {R : Room} {s : State} {m : MethodId} {args : Array Value} {below : List Frame} {meth : Method} {c : Code} {H : Heap} {locs : List Loc} {cells slots : Nat} {Q : State → Prop} {cc : ByteArray} {pc nL : Nat} {ls : Array Slot} {rest : List Value} {own : String} {D : va_G} {cy : Nat → ClassId} {sa : Nat → Nat} {de B : Nat} {ad : Ad} {S : St} {n : Nat → Nat} {T : St} {k : Nat → Nat} {th : Int32} {X : Rl} {i : Nat}  (hC : Cx p m c cc nL s args own D cy sa de B) (hS : va_S (AB B) s.heap H locs) (hG : GW D B ad (Vw cy de ad S n T k th X) H) (h0 : i < n 4 ∧ WF S n)  {idx : Nat} (wl : Cond.methodLink own idx yX6_endWaiting ∈ G0) (hR : 6 + 1 ≤ R.frames ∧ 8 + (2 + 11) + 133 ≤ R.locals) (hsz : ls.size = nL) (hst : (rest.map fun v => v.category).sum ≤ 8) (hdg : decode cc pc = .ok (.invokevirtual idx, 3)) (hcs : cells + 0 ≤ R.cells ∧ slots + 0 ≤ R.slots) (kk : ∀ (H1 : Heap) (locs1 : List Loc), ((fun H => GW D B ad (Vw cy de ad (ewS S n i) n T k th X) H)) H1 → va_S (AB B) s.heap H1 locs1 → W p l e R s m args below meth c H1 locs1 cells slots Q (F0 m (pc + 3) ls (rest))) : W p l e R s m args below meth c H locs cells slots Q (F0 m pc ls (.ref (ad 3 i 0) :: .ref (ad 0 0 0) :: rest)) :=
  va_callv (rV hC hS hG h0 (As := [.ref (ad 3 i 0)]) (c_X6_endWaiting l) ⟨rfl, rfl⟩ wl im_X6_endWaiting sl_X6_X6_endWaiting in_X6 cd_X6_endWaiting (n := 1) (by decide +kernel) hR (recv hC hG (q := (RX6, TX6, 6)) rfl V_games) rfl hsz hst rfl hdg hcs) hS (fun _ _ h => h) (fun _ h => h) (fun u t H1 locs1 ht _ _ hB _ _ hS1 => kk H1 locs1 (by dsimp only at hB; rw [ht] at hB; exact hB) hS1)
set_option maxHeartbeats 4000000 in
set_option maxRecDepth 100000 in
theorem c_X6_hasResult (l : Launch) {D : va_G} {cy : Nat → ClassId} {sa : Nat → Nat} {de B : Nat} {ad : Ad} {S : St} {n : Nat → Nat} {T : St} {k : Nat → Nat} {th : Int32} {X : Rl} {i : Nat}  : Met l yX6_hasResult (Cond.code yX6_hasResult cX6_hasResult 4 (Option.some Jvm.ClassFile.FieldType.boolean) :: G0) ({ frames := 3, cells := 0, slots := 0, locals := 64 } : Room) (va_Pc [.ref (ad 0 0 0), .ref (ad 3 i 0)] (PW D cy sa de B ad (Vw cy de ad S n T k th X) (i < n 4 ∧ WF S n ∧ NE S))) (vp_Si (fun r => (r = 1 ∧ resP S i (n 3)) ∨ (r = 0 ∧ ¬ resP S i (n 3)))) 0 0 (fun _ => False) := by
  refine E_met (own := RX6) rfl rfl (Nat.le_of_ble_eq_true rfl) ?_
  intro p e s m below meth c hC hr hlk hnm hG h0 ls hl
  have hx := hC.x
  have hb := hC.b
  have hS : va_S (AB B) s.heap s.heap [] := va_S.rf
  have hl : lo ls 4 [some (.ref (ad 0 0 0)), some (.ref (ad 3 i 0)), none, none] := lo_of hl
  obtain ⟨hi, hW, hNE⟩ := h0
  have hW9 := hW
  obtain ⟨hB0, hB1, hB2, hB3, hB4, hB5, hB6, hB7, hKI, hEI, hKY⟩ := hW9
  
  refine lv_iconst (v := 0) hx hb dX6_hasResult_0 (by decide) ?_
  refine o_istore_n hx hb dX6_hasResult_1 hl (by decide) rfl (fun ls hl => ?_)
  have loop2 : ∀ (q9 : Nat) (y : Nat), y ≤ n 3 ∧ n 3 < y + q9 → (∀ z, z < y → ¬ timeP S z i) → ∀ ls : Array Slot, lo ls 4 [some (.ref (ad 0 0 0)), some (.ref (ad 3 i 0)), some (.int (nI y)), none] → W p l e ({ frames := 3, cells := 0, slots := 0, locals := 64 } : Room) s m [.ref (ad 0 0 0), .ref (ad 3 i 0)].toArray below meth c s.heap [] 0 0 (MQ below (vp_Si (fun r => (r = 1 ∧ resP S i (n 3)) ∨ (r = 0 ∧ ¬ resP S i (n 3)))) [.ref (ad 0 0 0), .ref (ad 3 i 0)].toArray s 0 0 (fun _ => False)) (F0 m 2 ls []) := by
    intro q9
    induction q9 with
    | zero => intro y hq9; exact absurd hq9 (by omega)
    | succ q9 ih2 =>
      intro y hq9 hn  ls hl
      refine o_iload_n hx hb dX6_hasResult_2 hl rfl ?_
      refine o_aload_n hx hb dX6_hasResult_3 hl rfl ?_
      refine g_get hC hG us_X6 rfl 3 (by decide) fl_X6_22 V_games rfl dX6_hasResult_4 ?_
      refine k_Jx4a65c_size_8abf5 (q := 3) hC hS hG (by omega) ml_X6_33 ⟨Nat.le_of_ble_eq_true rfl, Nat.le_of_ble_eq_true rfl⟩ hl.1 (Nat.le_of_ble_eq_true rfl) dX6_hasResult_7 ⟨Nat.le_of_ble_eq_true rfl, Nat.le_of_ble_eq_true rfl⟩ ?_
      refine n_icmp_ge (tgt := 48) hx hb y (n 3) rfl rfl (by omega) (by omega) dX6_hasResult_10 (by decide) (fun h10 => ?_) (fun h10 => ?_)
      · skip
        refine lv_iconst (v := 0) hx hb dX6_hasResult_48 (by decide) ?_
        exact R_i hC hr hlk rfl (Or.inr ⟨rfl, fun ⟨z, hz, ht⟩ => hn z (by omega) ht⟩) dX6_hasResult_49
      · skip
        refine o_aload_n hx hb dX6_hasResult_13 hl rfl ?_
        refine g_get hC hG us_X6 rfl 3 (by decide) fl_X6_22 V_games rfl dX6_hasResult_14 ?_
        refine o_iload_n hx hb dX6_hasResult_17 hl rfl ?_
        refine k_Jx4a65c_get_915e3 (q := 3) hC hS hG ⟨by omega, by omega, by omega⟩ (show elT 3 = 8 from rfl) ml_X6_185 ⟨Nat.le_of_ble_eq_true rfl, Nat.le_of_ble_eq_true rfl⟩ hl.1 (Nat.le_of_ble_eq_true rfl) dX6_hasResult_18 ⟨Nat.le_of_ble_eq_true rfl, Nat.le_of_ble_eq_true rfl⟩ ?_
        refine va_castS hx hb hC.o (hC.t _ cl_X6_221) (hC.K.1 4 _ rfl).2 (recv hC hG (q := (RX3, TX3, 5)) rfl (V_event (by omega))) dX6_hasResult_21 ?_
        refine o_aload_n hx hb dX6_hasResult_24 hl rfl ?_
        refine k_X3_entryOf hC hS hG ⟨by omega, by omega, hW⟩ ml_X6_250 ⟨Nat.le_of_ble_eq_true rfl, Nat.le_of_ble_eq_true rfl⟩ hl.1 (Nat.le_of_ble_eq_true rfl) dX6_hasResult_25 ⟨Nat.le_of_ble_eq_true rfl, Nat.le_of_ble_eq_true rfl⟩ (fun h25_0 => ?_) (fun q25 h25_0 h25_1 h25_2 => ?_)
        · skip
          refine o_astore_nq (x := none) hx hb dX6_hasResult_28 hl (by decide) rfl (fun ls hl => ?_)
          refine o_aload_nq (x := none) hx hb dX6_hasResult_29 hl rfl ?_
          refine lv_ifnullN (tgt := 42) hx hb dX6_hasResult_30 (by decide) ?_
          refine o_iinc1 hx hb dX6_hasResult_42 hl rfl (by decide) rfl (fun ls hl => ?_)
          refine lv_goto (tgt := 2) hx hb dX6_hasResult_45 (by decide) ?_
          exact ih2 (y + 1) (by omega) (fun z hz => (Nat.lt_or_ge z y).elim (hn z) (fun h => by rw [show z = y by omega]; first | exact h34 | exact fun z => z (hNE _ _ h25_0).1)) ls (lo_none (i := 3) hl)
        · skip
          refine o_astore_n hx hb dX6_hasResult_28 hl (by decide) rfl (fun ls hl => ?_)
          refine o_aload_n hx hb dX6_hasResult_29 hl rfl ?_
          refine lv_ifnull hx hb dX6_hasResult_30 ?_
          refine o_aload_n hx hb dX6_hasResult_33 hl rfl ?_
          refine k_X2_hasTime hC hS hG ⟨by omega, by omega, by assumption⟩ ml_X6_292 ⟨Nat.le_of_ble_eq_true rfl, Nat.le_of_ble_eq_true rfl⟩ hl.1 (Nat.le_of_ble_eq_true rfl) dX6_hasResult_34 ⟨Nat.le_of_ble_eq_true rfl, Nat.le_of_ble_eq_true rfl⟩ (fun h34 => ?_) (fun h34 => ?_)
          · skip
            refine lv_if_eq (tgt := 42) hx hb dX6_hasResult_37 (by decide) (fun h37 => ?_) (fun h37 => ?_)
            · exact absurd h37 (by decide)
            · skip
              refine lv_iconst (v := 1) hx hb dX6_hasResult_40 (by decide) ?_
              exact R_i hC hr hlk rfl (Or.inl ⟨rfl, y, by omega, h34⟩) dX6_hasResult_41
          · skip
            refine lv_if_eq (tgt := 42) hx hb dX6_hasResult_37 (by decide) (fun h37 => ?_) (fun h37 => ?_)
            · skip
              refine o_iinc1 hx hb dX6_hasResult_42 hl rfl (by decide) rfl (fun ls hl => ?_)
              refine lv_goto (tgt := 2) hx hb dX6_hasResult_45 (by decide) ?_
              exact ih2 (y + 1) (by omega) (fun z hz => (Nat.lt_or_ge z y).elim (hn z) (fun h => by rw [show z = y by omega]; first | exact h34 | exact fun z => z (hNE _ _ h25_0).1)) ls (lo_none (i := 3) hl)
            · exact absurd h37 (by decide)
  exact loop2 (n 3 + 1) 0 (by omega) (fun _ h => absurd h (Nat.not_lt_zero _)) ls hl
theorem k_X6_hasResult {p : Program} {l : Launch} {e : Env} {R : Room} {s : State} {m : MethodId} {args : Array Value} {below : List Frame} {meth : Method} {c : Code} {H : Heap} {locs : List Loc} {cells slots : Nat} {Q : State → Prop} {cc : ByteArray} {pc nL : Nat} {ls : Array Slot} {rest : List Value} {own : String} {D : va_G} {cy : Nat → ClassId} {sa : Nat → Nat} {de B : Nat} {ad : Ad} {S : St} {n : Nat → Nat} {T : St} {k : Nat → Nat} {th : Int32} {X : Rl} {i : Nat}  (hC : Cx p m c cc nL s args own D cy sa de B) (hS : va_S (AB B) s.heap H locs) (hG : GW D B ad (Vw cy de ad S n T k th X) H) (h0 : i < n 4 ∧ WF S n ∧ NE S)  {idx : Nat} (wl : Cond.methodLink own idx yX6_hasResult ∈ G0) (hR : 3 + 1 ≤ R.frames ∧ 8 + (4 + 11) + 64 ≤ R.locals) (hsz : ls.size = nL) (hst : (rest.map fun v => v.category).sum ≤ 8) (hdg : decode cc pc = .ok (.invokevirtual idx, 3)) (hcs : cells + 0 ≤ R.cells ∧ slots + 0 ≤ R.slots) (kt : (resP S i (n 3)) → W p l e R s m args below meth c H locs cells slots Q (F0 m (pc + 3) ls (.int 1 :: rest))) (kf : ¬ (resP S i (n 3)) → W p l e R s m args below meth c H locs cells slots Q (F0 m (pc + 3) ls (.int 0 :: rest))) : W p l e R s m args below meth c H locs cells slots Q (F0 m pc ls (.ref (ad 3 i 0) :: .ref (ad 0 0 0) :: rest)) :=
  vp_callSi (va_Run.run (rV hC hS hG h0 (As := [.ref (ad 3 i 0)]) (c_X6_hasResult l) ⟨rfl, rfl⟩ wl im_X6_hasResult sl_X6_X6_hasResult in_X6 cd_X6_hasResult (n := 1) (by decide +kernel) hR (recv hC hG (q := (RX6, TX6, 6)) rfl V_games) rfl hsz hst rfl hdg hcs)) (fun r hr => by rcases hr with ⟨rfl, hp⟩ | ⟨rfl, hp⟩; exact kt hp; exact kf hp)
set_option maxHeartbeats 4000000 in
set_option maxRecDepth 100000 in
theorem c_X6_areAllOfLand (l : Launch) {D : va_G} {cy : Nat → ClassId} {sa : Nat → Nat} {de B : Nat} {ad : Ad} {S : St} {n : Nat → Nat} {T : St} {k : Nat → Nat} {th : Int32} {X : Rl} {x land : Int32}  : Met l yX6_areAllOfLand (Cond.code yX6_areAllOfLand cX6_areAllOfLand 4 (Option.some Jvm.ClassFile.FieldType.boolean) :: G0) ({ frames := 3, cells := 0, slots := 0, locals := 64 } : Room) (va_Pc [.ref (ad 0 0 0), .int x, .int land] (PW D cy sa de B ad (Vw cy de ad S n T k th X) (WF S n))) (vp_Si (fun r => (r = 1 ∧ allL S x land (n 0)) ∨ (r = 0 ∧ ¬ allL S x land (n 0)))) 0 0 (fun _ => False) := by
  refine E_met (own := RX6) rfl rfl (Nat.le_of_ble_eq_true rfl) ?_
  intro p e s m below meth c hC hr hlk hnm hG h0 ls hl
  have hx := hC.x
  have hb := hC.b
  have hS : va_S (AB B) s.heap s.heap [] := va_S.rf
  have hl : lo ls 4 [some (.ref (ad 0 0 0)), some (.int x), some (.int land), none] := lo_of hl
  have hW := h0
  have hW9 := hW
  obtain ⟨hB0, hB1, hB2, hB3, hB4, hB5, hB6, hB7, hKI, hEI, hKY⟩ := hW9
  
  refine lv_iconst (v := 0) hx hb dX6_areAllOfLand_0 (by decide) ?_
  refine o_istore_n hx hb dX6_areAllOfLand_1 hl (by decide) rfl (fun ls hl => ?_)
  have loop2 : ∀ (q9 : Nat) (y : Nat), y ≤ n 0 ∧ n 0 < y + q9 → (∀ z, z < y → bitP x (nI z) → S 5 z 0 = land) → ∀ ls : Array Slot, lo ls 4 [some (.ref (ad 0 0 0)), some (.int x), some (.int land), some (.int (nI y))] → W p l e ({ frames := 3, cells := 0, slots := 0, locals := 64 } : Room) s m [.ref (ad 0 0 0), .int x, .int land].toArray below meth c s.heap [] 0 0 (MQ below (vp_Si (fun r => (r = 1 ∧ allL S x land (n 0)) ∨ (r = 0 ∧ ¬ allL S x land (n 0)))) [.ref (ad 0 0 0), .int x, .int land].toArray s 0 0 (fun _ => False)) (F0 m 2 ls []) := by
    intro q9
    induction q9 with
    | zero => intro y hq9; exact absurd hq9 (by omega)
    | succ q9 ih2 =>
      intro y hq9 hn  ls hl
      refine o_iload_n hx hb dX6_areAllOfLand_2 hl rfl ?_
      refine o_aload_n hx hb dX6_areAllOfLand_3 hl rfl ?_
      refine g_get hC hG us_X6 rfl 0 (by decide) fl_X6_10 V_games rfl dX6_areAllOfLand_4 ?_
      refine k_Jx4a65c_size_8abf5 (q := 0) hC hS hG (by omega) ml_X6_33 ⟨Nat.le_of_ble_eq_true rfl, Nat.le_of_ble_eq_true rfl⟩ hl.1 (Nat.le_of_ble_eq_true rfl) dX6_areAllOfLand_7 ⟨Nat.le_of_ble_eq_true rfl, Nat.le_of_ble_eq_true rfl⟩ ?_
      refine n_icmp_ge (tgt := 47) hx hb y (n 0) rfl rfl (by omega) (by omega) dX6_areAllOfLand_10 (by decide) (fun h10 => ?_) (fun h10 => ?_)
      · skip
        refine lv_iconst (v := 1) hx hb dX6_areAllOfLand_47 (by decide) ?_
        exact R_i hC hr hlk rfl (Or.inl ⟨rfl, fun a ha => hn a (by omega)⟩) dX6_areAllOfLand_48
      · skip
        refine o_iload_n hx hb dX6_areAllOfLand_13 hl rfl ?_
        refine o_iload_n hx hb dX6_areAllOfLand_14 hl rfl ?_
        refine k_X6_hasBit hC hS hG trivial ml_X6_430 ⟨Nat.le_of_ble_eq_true rfl, Nat.le_of_ble_eq_true rfl⟩ hl.1 (Nat.le_of_ble_eq_true rfl) dX6_areAllOfLand_15 ⟨Nat.le_of_ble_eq_true rfl, Nat.le_of_ble_eq_true rfl⟩ (fun h15 => ?_) (fun h15 => ?_)
        · skip
          refine lv_if_eq (tgt := 41) hx hb dX6_areAllOfLand_18 (by decide) (fun h18 => ?_) (fun h18 => ?_)
          · exact absurd h18 (by decide)
          · skip
            refine o_aload_n hx hb dX6_areAllOfLand_21 hl rfl ?_
            refine g_get hC hG us_X6 rfl 0 (by decide) fl_X6_10 V_games rfl dX6_areAllOfLand_22 ?_
            refine o_iload_n hx hb dX6_areAllOfLand_25 hl rfl ?_
            refine k_Jx4a65c_get_915e3 (q := 0) hC hS hG ⟨by omega, by omega, by omega⟩ (show elT 0 = 3 from rfl) ml_X6_185 ⟨Nat.le_of_ble_eq_true rfl, Nat.le_of_ble_eq_true rfl⟩ hl.1 (Nat.le_of_ble_eq_true rfl) dX6_areAllOfLand_26 ⟨Nat.le_of_ble_eq_true rfl, Nat.le_of_ble_eq_true rfl⟩ ?_
            refine va_castS hx hb hC.o (hC.t _ cl_X6_44) (hC.K.1 1 _ rfl).2 (recv hC hG (q := (RX0, TX0, 10)) rfl (V_ath (by omega))) dX6_areAllOfLand_29 ?_
            refine g_get hC hG us_X0 rfl 1 (by decide) fl_X6_138 (V_ath (by omega)) rfl dX6_areAllOfLand_32 ?_
            refine o_iload_n hx hb dX6_areAllOfLand_35 hl rfl ?_
            refine lv_icmp_eq (tgt := 41) hx hb dX6_areAllOfLand_36 (by decide) (fun h36 => ?_) (fun h36 => ?_)
            · skip
              refine o_iinc1 hx hb dX6_areAllOfLand_41 hl rfl (by decide) rfl (fun ls hl => ?_)
              refine lv_goto (tgt := 2) hx hb dX6_areAllOfLand_44 (by decide) ?_
              exact ih2 (y + 1) (by omega) (fun z hz => (Nat.lt_or_ge z y).elim (hn z) (fun h => by rw [show z = y by omega]; first | exact fun _ => h36 | exact fun z => absurd z h15)) ls hl
            · skip
              refine lv_iconst (v := 0) hx hb dX6_areAllOfLand_39 (by decide) ?_
              exact R_i hC hr hlk rfl (Or.inr ⟨rfl, fun z => h36 (z y (by omega) h15)⟩) dX6_areAllOfLand_40
        · skip
          refine lv_if_eq (tgt := 41) hx hb dX6_areAllOfLand_18 (by decide) (fun h18 => ?_) (fun h18 => ?_)
          · skip
            refine o_iinc1 hx hb dX6_areAllOfLand_41 hl rfl (by decide) rfl (fun ls hl => ?_)
            refine lv_goto (tgt := 2) hx hb dX6_areAllOfLand_44 (by decide) ?_
            exact ih2 (y + 1) (by omega) (fun z hz => (Nat.lt_or_ge z y).elim (hn z) (fun h => by rw [show z = y by omega]; first | exact fun _ => h36 | exact fun z => absurd z h15)) ls hl
          · exact absurd h18 (by decide)
  exact loop2 (n 0 + 1) 0 (by omega) (fun _ h => absurd h (Nat.not_lt_zero _)) ls hl
theorem k_X6_areAllOfLand {p : Program} {l : Launch} {e : Env} {R : Room} {s : State} {m : MethodId} {args : Array Value} {below : List Frame} {meth : Method} {c : Code} {H : Heap} {locs : List Loc} {cells slots : Nat} {Q : State → Prop} {cc : ByteArray} {pc nL : Nat} {ls : Array Slot} {rest : List Value} {own : String} {D : va_G} {cy : Nat → ClassId} {sa : Nat → Nat} {de B : Nat} {ad : Ad} {S : St} {n : Nat → Nat} {T : St} {k : Nat → Nat} {th : Int32} {X : Rl} {x land : Int32}  (hC : Cx p m c cc nL s args own D cy sa de B) (hS : va_S (AB B) s.heap H locs) (hG : GW D B ad (Vw cy de ad S n T k th X) H) (h0 : WF S n)  {idx : Nat} (wl : Cond.methodLink own idx yX6_areAllOfLand ∈ G0) (hR : 3 + 1 ≤ R.frames ∧ 8 + (4 + 11) + 64 ≤ R.locals) (hsz : ls.size = nL) (hst : (rest.map fun v => v.category).sum ≤ 8) (hdg : decode cc pc = .ok (.invokevirtual idx, 3)) (hcs : cells + 0 ≤ R.cells ∧ slots + 0 ≤ R.slots) (kt : (allL S x land (n 0)) → W p l e R s m args below meth c H locs cells slots Q (F0 m (pc + 3) ls (.int 1 :: rest))) (kf : ¬ (allL S x land (n 0)) → W p l e R s m args below meth c H locs cells slots Q (F0 m (pc + 3) ls (.int 0 :: rest))) : W p l e R s m args below meth c H locs cells slots Q (F0 m pc ls (.int land :: .int x :: .ref (ad 0 0 0) :: rest)) :=
  vp_callSi (va_Run.run (rV hC hS hG h0 (As := [.int x, .int land]) (c_X6_areAllOfLand l) ⟨rfl, rfl⟩ wl im_X6_areAllOfLand sl_X6_X6_areAllOfLand in_X6 cd_X6_areAllOfLand (n := 2) (by decide +kernel) hR (recv hC hG (q := (RX6, TX6, 6)) rfl V_games) rfl hsz hst rfl hdg hcs)) (fun r hr => by rcases hr with ⟨rfl, hp⟩ | ⟨rfl, hp⟩; exact kt hp; exact kf hp)
set_option maxHeartbeats 4000000 in
set_option maxRecDepth 100000 in
theorem c_X6_haveAllClasses (l : Launch) {D : va_G} {cy : Nat → ClassId} {sa : Nat → Nat} {de B : Nat} {ad : Ad} {S : St} {n : Nat → Nat} {T : St} {k : Nat → Nat} {th : Int32} {X : Rl} {x : Int32}  : Met l yX6_haveAllClasses (Cond.code yX6_haveAllClasses cX6_haveAllClasses 3 (Option.some Jvm.ClassFile.FieldType.boolean) :: G0) ({ frames := 3, cells := 0, slots := 0, locals := 64 } : Room) (va_Pc [.ref (ad 0 0 0), .int x] (PW D cy sa de B ad (Vw cy de ad S n T k th X) (WF S n))) (vp_Si (fun r => (r = 1 ∧ allK S x (n 0)) ∨ (r = 0 ∧ ¬ allK S x (n 0)))) 0 0 (fun _ => False) := by
  refine E_met (own := RX6) rfl rfl (Nat.le_of_ble_eq_true rfl) ?_
  intro p e s m below meth c hC hr hlk hnm hG h0 ls hl
  have hx := hC.x
  have hb := hC.b
  have hS : va_S (AB B) s.heap s.heap [] := va_S.rf
  have hl : lo ls 3 [some (.ref (ad 0 0 0)), some (.int x), none] := lo_of hl
  have hW := h0
  have hW9 := hW
  obtain ⟨hB0, hB1, hB2, hB3, hB4, hB5, hB6, hB7, hKI, hEI, hKY⟩ := hW9
  
  refine lv_iconst (v := 0) hx hb dX6_haveAllClasses_0 (by decide) ?_
  refine o_istore_n hx hb dX6_haveAllClasses_1 hl (by decide) rfl (fun ls hl => ?_)
  have loop2 : ∀ (q9 : Nat) (y : Nat), y ≤ n 0 ∧ n 0 < y + q9 → (∀ z, z < y → bitP x (nI z) → ¬ S 10 z 0 = -1) → ∀ ls : Array Slot, lo ls 3 [some (.ref (ad 0 0 0)), some (.int x), some (.int (nI y))] → W p l e ({ frames := 3, cells := 0, slots := 0, locals := 64 } : Room) s m [.ref (ad 0 0 0), .int x].toArray below meth c s.heap [] 0 0 (MQ below (vp_Si (fun r => (r = 1 ∧ allK S x (n 0)) ∨ (r = 0 ∧ ¬ allK S x (n 0)))) [.ref (ad 0 0 0), .int x].toArray s 0 0 (fun _ => False)) (F0 m 2 ls []) := by
    intro q9
    induction q9 with
    | zero => intro y hq9; exact absurd hq9 (by omega)
    | succ q9 ih2 =>
      intro y hq9 hn  ls hl
      refine o_iload_n hx hb dX6_haveAllClasses_2 hl rfl ?_
      refine o_aload_n hx hb dX6_haveAllClasses_3 hl rfl ?_
      refine g_get hC hG us_X6 rfl 0 (by decide) fl_X6_10 V_games rfl dX6_haveAllClasses_4 ?_
      refine k_Jx4a65c_size_8abf5 (q := 0) hC hS hG (by omega) ml_X6_33 ⟨Nat.le_of_ble_eq_true rfl, Nat.le_of_ble_eq_true rfl⟩ hl.1 (Nat.le_of_ble_eq_true rfl) dX6_haveAllClasses_7 ⟨Nat.le_of_ble_eq_true rfl, Nat.le_of_ble_eq_true rfl⟩ ?_
      refine n_icmp_ge (tgt := 46) hx hb y (n 0) rfl rfl (by omega) (by omega) dX6_haveAllClasses_10 (by decide) (fun h10 => ?_) (fun h10 => ?_)
      · skip
        refine lv_iconst (v := 1) hx hb dX6_haveAllClasses_46 (by decide) ?_
        exact R_i hC hr hlk rfl (Or.inl ⟨rfl, fun a ha => hn a (by omega)⟩) dX6_haveAllClasses_47
      · skip
        refine o_iload_n hx hb dX6_haveAllClasses_13 hl rfl ?_
        refine o_iload_n hx hb dX6_haveAllClasses_14 hl rfl ?_
        refine k_X6_hasBit hC hS hG trivial ml_X6_430 ⟨Nat.le_of_ble_eq_true rfl, Nat.le_of_ble_eq_true rfl⟩ hl.1 (Nat.le_of_ble_eq_true rfl) dX6_haveAllClasses_15 ⟨Nat.le_of_ble_eq_true rfl, Nat.le_of_ble_eq_true rfl⟩ (fun h15 => ?_) (fun h15 => ?_)
        · skip
          refine lv_if_eq (tgt := 40) hx hb dX6_haveAllClasses_18 (by decide) (fun h18 => ?_) (fun h18 => ?_)
          · exact absurd h18 (by decide)
          · skip
            refine o_aload_n hx hb dX6_haveAllClasses_21 hl rfl ?_
            refine g_get hC hG us_X6 rfl 0 (by decide) fl_X6_10 V_games rfl dX6_haveAllClasses_22 ?_
            refine o_iload_n hx hb dX6_haveAllClasses_25 hl rfl ?_
            refine k_Jx4a65c_get_915e3 (q := 0) hC hS hG ⟨by omega, by omega, by omega⟩ (show elT 0 = 3 from rfl) ml_X6_185 ⟨Nat.le_of_ble_eq_true rfl, Nat.le_of_ble_eq_true rfl⟩ hl.1 (Nat.le_of_ble_eq_true rfl) dX6_haveAllClasses_26 ⟨Nat.le_of_ble_eq_true rfl, Nat.le_of_ble_eq_true rfl⟩ ?_
            refine va_castS hx hb hC.o (hC.t _ cl_X6_44) (hC.K.1 1 _ rfl).2 (recv hC hG (q := (RX0, TX0, 10)) rfl (V_ath (by omega))) dX6_haveAllClasses_29 ?_
            refine g_get hC hG us_X0 rfl 7 (by decide) fl_X6_157 (V_ath (by omega)) rfl dX6_haveAllClasses_32 ?_
            rcases hKI y (by omega) with hk32 | ⟨q32, hq32, hk32⟩
            · skip
              rw [kro_null (show _ = -1 by exact hk32)]
              refine lv_ifnonnullN hx hb dX6_haveAllClasses_35 ?_
              refine lv_iconst (v := 0) hx hb dX6_haveAllClasses_38 (by decide) ?_
              exact R_i hC hr hlk rfl (Or.inr ⟨rfl, fun z => z y (by omega) h15 hk32⟩) dX6_haveAllClasses_39
            · skip
              rw [kro_ref (show _ = nI q32 by exact hk32) (by omega)]
              refine lv_ifnonnull (tgt := 40) hx hb dX6_haveAllClasses_35 (by decide) ?_
              refine o_iinc1 hx hb dX6_haveAllClasses_40 hl rfl (by decide) rfl (fun ls hl => ?_)
              refine lv_goto (tgt := 2) hx hb dX6_haveAllClasses_43 (by decide) ?_
              exact ih2 (y + 1) (by omega) (fun z hz => (Nat.lt_or_ge z y).elim (hn z) (fun h => by rw [show z = y by omega]; first | exact fun _ => (by rw [hk32]; exact nI_ne_m1 (by omega)) | exact fun z => absurd z h15)) ls hl
        · skip
          refine lv_if_eq (tgt := 40) hx hb dX6_haveAllClasses_18 (by decide) (fun h18 => ?_) (fun h18 => ?_)
          · skip
            refine o_iinc1 hx hb dX6_haveAllClasses_40 hl rfl (by decide) rfl (fun ls hl => ?_)
            refine lv_goto (tgt := 2) hx hb dX6_haveAllClasses_43 (by decide) ?_
            exact ih2 (y + 1) (by omega) (fun z hz => (Nat.lt_or_ge z y).elim (hn z) (fun h => by rw [show z = y by omega]; first | exact fun _ => (by rw [hk32]; exact nI_ne_m1 (by omega)) | exact fun z => absurd z h15)) ls hl
          · exact absurd h18 (by decide)
  exact loop2 (n 0 + 1) 0 (by omega) (fun _ h => absurd h (Nat.not_lt_zero _)) ls hl
theorem k_X6_haveAllClasses {p : Program} {l : Launch} {e : Env} {R : Room} {s : State} {m : MethodId} {args : Array Value} {below : List Frame} {meth : Method} {c : Code} {H : Heap} {locs : List Loc} {cells slots : Nat} {Q : State → Prop} {cc : ByteArray} {pc nL : Nat} {ls : Array Slot} {rest : List Value} {own : String} {D : va_G} {cy : Nat → ClassId} {sa : Nat → Nat} {de B : Nat} {ad : Ad} {S : St} {n : Nat → Nat} {T : St} {k : Nat → Nat} {th : Int32} {X : Rl} {x : Int32}  (hC : Cx p m c cc nL s args own D cy sa de B) (hS : va_S (AB B) s.heap H locs) (hG : GW D B ad (Vw cy de ad S n T k th X) H) (h0 : WF S n)  {idx : Nat} (wl : Cond.methodLink own idx yX6_haveAllClasses ∈ G0) (hR : 3 + 1 ≤ R.frames ∧ 8 + (3 + 11) + 64 ≤ R.locals) (hsz : ls.size = nL) (hst : (rest.map fun v => v.category).sum ≤ 8) (hdg : decode cc pc = .ok (.invokevirtual idx, 3)) (hcs : cells + 0 ≤ R.cells ∧ slots + 0 ≤ R.slots) (kt : (allK S x (n 0)) → W p l e R s m args below meth c H locs cells slots Q (F0 m (pc + 3) ls (.int 1 :: rest))) (kf : ¬ (allK S x (n 0)) → W p l e R s m args below meth c H locs cells slots Q (F0 m (pc + 3) ls (.int 0 :: rest))) : W p l e R s m args below meth c H locs cells slots Q (F0 m pc ls (.int x :: .ref (ad 0 0 0) :: rest)) :=
  vp_callSi (va_Run.run (rV hC hS hG h0 (As := [.int x]) (c_X6_haveAllClasses l) ⟨rfl, rfl⟩ wl im_X6_haveAllClasses sl_X6_X6_haveAllClasses in_X6 cd_X6_haveAllClasses (n := 1) (by decide +kernel) hR (recv hC hG (q := (RX6, TX6, 6)) rfl V_games) rfl hsz hst rfl hdg hcs)) (fun r hr => by rcases hr with ⟨rfl, hp⟩ | ⟨rfl, hp⟩; exact kt hp; exact kf hp)
set_option maxHeartbeats 4000000 in
set_option maxRecDepth 100000 in
theorem c_X6_pointsOf (l : Launch) {D : va_G} {cy : Nat → ClassId} {sa : Nat → Nat} {de B : Nat} {ad : Ad} {S : St} {n : Nat → Nat} {T : St} {k : Nat → Nat} {th : Int32} {X : Rl} {x : Int32}  : Met l yX6_pointsOf (Cond.code yX6_pointsOf cX6_pointsOf 4 (Option.some Jvm.ClassFile.FieldType.int) :: G0) ({ frames := 3, cells := 0, slots := 0, locals := 64 } : Room) (va_Pc [.ref (ad 0 0 0), .int x] (PW D cy sa de B ad (Vw cy de ad S n T k th X) (WF S n))) (vp_Si (fun r => r = ptF S x (n 0))) 0 0 (fun _ => False) := by
  refine E_met (own := RX6) rfl rfl (Nat.le_of_ble_eq_true rfl) ?_
  intro p e s m below meth c hC hr hlk hnm hG h0 ls hl
  have hx := hC.x
  have hb := hC.b
  have hS : va_S (AB B) s.heap s.heap [] := va_S.rf
  have hl : lo ls 4 [some (.ref (ad 0 0 0)), some (.int x), none, none] := lo_of hl
  have hW := h0
  have hW9 := hW
  obtain ⟨hB0, hB1, hB2, hB3, hB4, hB5, hB6, hB7, hKI, hEI, hKY⟩ := hW9
  
  refine lv_iconst (v := 0) hx hb dX6_pointsOf_0 (by decide) ?_
  refine o_istore_n hx hb dX6_pointsOf_1 hl (by decide) rfl (fun ls hl => ?_)
  refine lv_iconst (v := 0) hx hb dX6_pointsOf_2 (by decide) ?_
  refine o_istore_n hx hb dX6_pointsOf_3 hl (by decide) rfl (fun ls hl => ?_)
  have loop4 : ∀ (q9 : Nat) (y : Nat), y ≤ n 0 ∧ n 0 < y + q9 → ∀ ls : Array Slot, lo ls 4 [some (.ref (ad 0 0 0)), some (.int x), some (.int (ptF S x y)), some (.int (nI y))] → W p l e ({ frames := 3, cells := 0, slots := 0, locals := 64 } : Room) s m [.ref (ad 0 0 0), .int x].toArray below meth c s.heap [] 0 0 (MQ below (vp_Si (fun r => r = ptF S x (n 0))) [.ref (ad 0 0 0), .int x].toArray s 0 0 (fun _ => False)) (F0 m 4 ls []) := by
    intro q9
    induction q9 with
    | zero => intro y hq9; exact absurd hq9 (by omega)
    | succ q9 ih4 =>
      intro y hq9   ls hl
      refine o_iload_n hx hb dX6_pointsOf_4 hl rfl ?_
      refine o_aload_n hx hb dX6_pointsOf_5 hl rfl ?_
      refine g_get hC hG us_X6 rfl 0 (by decide) fl_X6_10 V_games rfl dX6_pointsOf_6 ?_
      refine k_Jx4a65c_size_8abf5 (q := 0) hC hS hG (by omega) ml_X6_33 ⟨Nat.le_of_ble_eq_true rfl, Nat.le_of_ble_eq_true rfl⟩ hl.1 (Nat.le_of_ble_eq_true rfl) dX6_pointsOf_9 ⟨Nat.le_of_ble_eq_true rfl, Nat.le_of_ble_eq_true rfl⟩ ?_
      refine n_icmp_ge (tgt := 46) hx hb y (n 0) rfl rfl (by omega) (by omega) dX6_pointsOf_12 (by decide) (fun h12 => ?_) (fun h12 => ?_)
      · skip
        refine o_iload_n hx hb dX6_pointsOf_46 hl rfl ?_
        exact R_i hC hr hlk rfl (by rw [show n 0 = y by omega]) dX6_pointsOf_47
      · skip
        refine o_iload_n hx hb dX6_pointsOf_15 hl rfl ?_
        refine o_iload_n hx hb dX6_pointsOf_16 hl rfl ?_
        refine k_X6_hasBit hC hS hG trivial ml_X6_430 ⟨Nat.le_of_ble_eq_true rfl, Nat.le_of_ble_eq_true rfl⟩ hl.1 (Nat.le_of_ble_eq_true rfl) dX6_pointsOf_17 ⟨Nat.le_of_ble_eq_true rfl, Nat.le_of_ble_eq_true rfl⟩ (fun h17 => ?_) (fun h17 => ?_)
        · skip
          refine lv_if_eq (tgt := 40) hx hb dX6_pointsOf_20 (by decide) (fun h20 => ?_) (fun h20 => ?_)
          · exact absurd h20 (by decide)
          · skip
            refine o_iload_n hx hb dX6_pointsOf_23 hl rfl ?_
            refine o_aload_n hx hb dX6_pointsOf_24 hl rfl ?_
            refine g_get hC hG us_X6 rfl 0 (by decide) fl_X6_10 V_games rfl dX6_pointsOf_25 ?_
            refine o_iload_n hx hb dX6_pointsOf_28 hl rfl ?_
            refine k_Jx4a65c_get_915e3 (q := 0) hC hS hG ⟨by omega, by omega, by omega⟩ (show elT 0 = 3 from rfl) ml_X6_185 ⟨Nat.le_of_ble_eq_true rfl, Nat.le_of_ble_eq_true rfl⟩ hl.1 (Nat.le_of_ble_eq_true rfl) dX6_pointsOf_29 ⟨Nat.le_of_ble_eq_true rfl, Nat.le_of_ble_eq_true rfl⟩ ?_
            refine va_castS hx hb hC.o (hC.t _ cl_X6_44) (hC.K.1 1 _ rfl).2 (recv hC hG (q := (RX0, TX0, 10)) rfl (V_ath (by omega))) dX6_pointsOf_32 ?_
            refine k_X0_pointsByNow hC hS hG ⟨by omega, hW⟩ ml_X6_378 ⟨Nat.le_of_ble_eq_true rfl, Nat.le_of_ble_eq_true rfl⟩ hl.1 (Nat.le_of_ble_eq_true rfl) dX6_pointsOf_35 ⟨Nat.le_of_ble_eq_true rfl, Nat.le_of_ble_eq_true rfl⟩ ?_
            refine lv_iadd hx hb dX6_pointsOf_38 ?_
            refine o_istore_n hx hb dX6_pointsOf_39 hl (by decide) rfl (fun ls hl => ?_)
            refine o_iinc1 hx hb dX6_pointsOf_40 hl rfl (by decide) rfl (fun ls hl => ?_)
            refine lv_goto (tgt := 4) hx hb dX6_pointsOf_43 (by decide) ?_
            exact ih4 (y + 1) (by omega) ls (by first | (rw [ptF_t h17]; exact hl) | (rw [ptF_f h17]; exact hl))
        · skip
          refine lv_if_eq (tgt := 40) hx hb dX6_pointsOf_20 (by decide) (fun h20 => ?_) (fun h20 => ?_)
          · skip
            refine o_iinc1 hx hb dX6_pointsOf_40 hl rfl (by decide) rfl (fun ls hl => ?_)
            refine lv_goto (tgt := 4) hx hb dX6_pointsOf_43 (by decide) ?_
            exact ih4 (y + 1) (by omega) ls (by first | (rw [ptF_t h17]; exact hl) | (rw [ptF_f h17]; exact hl))
          · exact absurd h20 (by decide)
  exact loop4 (n 0 + 1) 0 (by omega) ls hl
theorem k_X6_pointsOf {p : Program} {l : Launch} {e : Env} {R : Room} {s : State} {m : MethodId} {args : Array Value} {below : List Frame} {meth : Method} {c : Code} {H : Heap} {locs : List Loc} {cells slots : Nat} {Q : State → Prop} {cc : ByteArray} {pc nL : Nat} {ls : Array Slot} {rest : List Value} {own : String} {D : va_G} {cy : Nat → ClassId} {sa : Nat → Nat} {de B : Nat} {ad : Ad} {S : St} {n : Nat → Nat} {T : St} {k : Nat → Nat} {th : Int32} {X : Rl} {x : Int32}  (hC : Cx p m c cc nL s args own D cy sa de B) (hS : va_S (AB B) s.heap H locs) (hG : GW D B ad (Vw cy de ad S n T k th X) H) (h0 : WF S n)  {idx : Nat} (wl : Cond.methodLink own idx yX6_pointsOf ∈ G0) (hR : 3 + 1 ≤ R.frames ∧ 8 + (4 + 11) + 64 ≤ R.locals) (hsz : ls.size = nL) (hst : (rest.map fun v => v.category).sum ≤ 8) (hdg : decode cc pc = .ok (.invokevirtual idx, 3)) (hcs : cells + 0 ≤ R.cells ∧ slots + 0 ≤ R.slots) (kk : W p l e R s m args below meth c H locs cells slots Q (F0 m (pc + 3) ls (.int (ptF S x (n 0)) :: rest))) : W p l e R s m args below meth c H locs cells slots Q (F0 m pc ls (.int x :: .ref (ad 0 0 0) :: rest)) :=
  vp_callSi (va_Run.run (rV hC hS hG h0 (As := [.int x]) (c_X6_pointsOf l) ⟨rfl, rfl⟩ wl im_X6_pointsOf sl_X6_X6_pointsOf in_X6 cd_X6_pointsOf (n := 1) (by decide +kernel) hR (recv hC hG (q := (RX6, TX6, 6)) rfl V_games) rfl hsz hst rfl hdg hcs)) (fun r hr => by subst hr; exact kk)
set_option maxHeartbeats 4000000 in
set_option maxRecDepth 100000 in
theorem c_X6_bitsOnFloor (l : Launch) {D : va_G} {cy : Nat → ClassId} {sa : Nat → Nat} {de B : Nat} {ad : Ad} {S : St} {n : Nat → Nat} {T : St} {k : Nat → Nat} {th : Int32} {X : Rl} {land : Int32}  : Met l yX6_bitsOnFloor (Cond.code yX6_bitsOnFloor cX6_bitsOnFloor 4 (Option.some Jvm.ClassFile.FieldType.int) :: G0) ({ frames := 3, cells := 0, slots := 0, locals := 64 } : Room) (va_Pc [.ref (ad 0 0 0), .int land] (PW D cy sa de B ad (Vw cy de ad S n T k th X) (WF S n))) (vp_Si (fun r => r = biF S land (n 0))) 0 0 (fun _ => False) := by
  refine E_met (own := RX6) rfl rfl (Nat.le_of_ble_eq_true rfl) ?_
  intro p e s m below meth c hC hr hlk hnm hG h0 ls hl
  have hx := hC.x
  have hb := hC.b
  have hS : va_S (AB B) s.heap s.heap [] := va_S.rf
  have hl : lo ls 4 [some (.ref (ad 0 0 0)), some (.int land), none, none] := lo_of hl
  have hW := h0
  have hW9 := hW
  obtain ⟨hB0, hB1, hB2, hB3, hB4, hB5, hB6, hB7, hKI, hEI, hKY⟩ := hW9
  
  refine lv_iconst (v := 0) hx hb dX6_bitsOnFloor_0 (by decide) ?_
  refine o_istore_n hx hb dX6_bitsOnFloor_1 hl (by decide) rfl (fun ls hl => ?_)
  refine lv_iconst (v := 0) hx hb dX6_bitsOnFloor_2 (by decide) ?_
  refine o_istore_n hx hb dX6_bitsOnFloor_3 hl (by decide) rfl (fun ls hl => ?_)
  have loop4 : ∀ (q9 : Nat) (y : Nat), y ≤ n 0 ∧ n 0 < y + q9 → ∀ ls : Array Slot, lo ls 4 [some (.ref (ad 0 0 0)), some (.int land), some (.int (biF S land y)), some (.int (nI y))] → W p l e ({ frames := 3, cells := 0, slots := 0, locals := 64 } : Room) s m [.ref (ad 0 0 0), .int land].toArray below meth c s.heap [] 0 0 (MQ below (vp_Si (fun r => r = biF S land (n 0))) [.ref (ad 0 0 0), .int land].toArray s 0 0 (fun _ => False)) (F0 m 4 ls []) := by
    intro q9
    induction q9 with
    | zero => intro y hq9; exact absurd hq9 (by omega)
    | succ q9 ih4 =>
      intro y hq9   ls hl
      refine o_iload_n hx hb dX6_bitsOnFloor_4 hl rfl ?_
      refine o_aload_n hx hb dX6_bitsOnFloor_5 hl rfl ?_
      refine g_get hC hG us_X6 rfl 0 (by decide) fl_X6_10 V_games rfl dX6_bitsOnFloor_6 ?_
      refine k_Jx4a65c_size_8abf5 (q := 0) hC hS hG (by omega) ml_X6_33 ⟨Nat.le_of_ble_eq_true rfl, Nat.le_of_ble_eq_true rfl⟩ hl.1 (Nat.le_of_ble_eq_true rfl) dX6_bitsOnFloor_9 ⟨Nat.le_of_ble_eq_true rfl, Nat.le_of_ble_eq_true rfl⟩ ?_
      refine n_icmp_ge (tgt := 62) hx hb y (n 0) rfl rfl (by omega) (by omega) dX6_bitsOnFloor_12 (by decide) (fun h12 => ?_) (fun h12 => ?_)
      · skip
        refine o_iload_n hx hb dX6_bitsOnFloor_62 hl rfl ?_
        exact R_i hC hr hlk rfl (by rw [show n 0 = y by omega]) dX6_bitsOnFloor_63
      · skip
        refine o_aload_n hx hb dX6_bitsOnFloor_15 hl rfl ?_
        refine g_get hC hG us_X6 rfl 0 (by decide) fl_X6_10 V_games rfl dX6_bitsOnFloor_16 ?_
        refine o_iload_n hx hb dX6_bitsOnFloor_19 hl rfl ?_
        refine k_Jx4a65c_get_915e3 (q := 0) hC hS hG ⟨by omega, by omega, by omega⟩ (show elT 0 = 3 from rfl) ml_X6_185 ⟨Nat.le_of_ble_eq_true rfl, Nat.le_of_ble_eq_true rfl⟩ hl.1 (Nat.le_of_ble_eq_true rfl) dX6_bitsOnFloor_20 ⟨Nat.le_of_ble_eq_true rfl, Nat.le_of_ble_eq_true rfl⟩ ?_
        refine va_castS hx hb hC.o (hC.t _ cl_X6_44) (hC.K.1 1 _ rfl).2 (recv hC hG (q := (RX0, TX0, 10)) rfl (V_ath (by omega))) dX6_bitsOnFloor_23 ?_
        refine g_get hC hG us_X0 rfl 1 (by decide) fl_X6_138 (V_ath (by omega)) rfl dX6_bitsOnFloor_26 ?_
        refine o_iload_n hx hb dX6_bitsOnFloor_29 hl rfl ?_
        refine lv_icmp_ne (tgt := 56) hx hb dX6_bitsOnFloor_30 (by decide) (fun h30 => ?_) (fun h30 => ?_)
        · skip
          refine o_iinc1 hx hb dX6_bitsOnFloor_56 hl rfl (by decide) rfl (fun ls hl => ?_)
          refine lv_goto (tgt := 4) hx hb dX6_bitsOnFloor_59 (by decide) ?_
          exact ih4 (y + 1) (by omega) ls (by first | (rw [biF_t ⟨h30, h47⟩]; exact hl) | (rw [biF_f (fun z => h30 z.1)]; exact hl) | (rw [biF_f (fun z => z.2 h47)]; exact hl))
        · skip
          refine o_aload_n hx hb dX6_bitsOnFloor_33 hl rfl ?_
          refine g_get hC hG us_X6 rfl 0 (by decide) fl_X6_10 V_games rfl dX6_bitsOnFloor_34 ?_
          refine o_iload_n hx hb dX6_bitsOnFloor_37 hl rfl ?_
          refine k_Jx4a65c_get_915e3 (q := 0) hC hS hG ⟨by omega, by omega, by omega⟩ (show elT 0 = 3 from rfl) ml_X6_185 ⟨Nat.le_of_ble_eq_true rfl, Nat.le_of_ble_eq_true rfl⟩ hl.1 (Nat.le_of_ble_eq_true rfl) dX6_bitsOnFloor_38 ⟨Nat.le_of_ble_eq_true rfl, Nat.le_of_ble_eq_true rfl⟩ ?_
          refine va_castS hx hb hC.o (hC.t _ cl_X6_44) (hC.K.1 1 _ rfl).2 (recv hC hG (q := (RX0, TX0, 10)) rfl (V_ath (by omega))) dX6_bitsOnFloor_41 ?_
          refine g_get hC hG us_X0 rfl 9 (by decide) fl_X6_368 (V_ath (by omega)) rfl dX6_bitsOnFloor_44 ?_
          refine lv_if_eq (tgt := 56) hx hb dX6_bitsOnFloor_47 (by decide) (fun h47 => ?_) (fun h47 => ?_)
          · skip
            refine o_iinc1 hx hb dX6_bitsOnFloor_56 hl rfl (by decide) rfl (fun ls hl => ?_)
            refine lv_goto (tgt := 4) hx hb dX6_bitsOnFloor_59 (by decide) ?_
            exact ih4 (y + 1) (by omega) ls (by first | (rw [biF_t ⟨h30, h47⟩]; exact hl) | (rw [biF_f (fun z => h30 z.1)]; exact hl) | (rw [biF_f (fun z => z.2 h47)]; exact hl))
          · skip
            refine o_iload_n hx hb dX6_bitsOnFloor_50 hl rfl ?_
            refine lv_iconst (v := 1) hx hb dX6_bitsOnFloor_51 (by decide) ?_
            refine o_iload_n hx hb dX6_bitsOnFloor_52 hl rfl ?_
            refine lv_ishl hx hb dX6_bitsOnFloor_53 ?_
            refine lv_ior hx hb dX6_bitsOnFloor_54 ?_
            refine o_istore_n hx hb dX6_bitsOnFloor_55 hl (by decide) rfl (fun ls hl => ?_)
            refine o_iinc1 hx hb dX6_bitsOnFloor_56 hl rfl (by decide) rfl (fun ls hl => ?_)
            refine lv_goto (tgt := 4) hx hb dX6_bitsOnFloor_59 (by decide) ?_
            exact ih4 (y + 1) (by omega) ls (by first | (rw [biF_t ⟨h30, h47⟩]; exact hl) | (rw [biF_f (fun z => h30 z.1)]; exact hl) | (rw [biF_f (fun z => z.2 h47)]; exact hl))
  exact loop4 (n 0 + 1) 0 (by omega) ls hl
theorem k_X6_bitsOnFloor {p : Program} {l : Launch} {e : Env} {R : Room} {s : State} {m : MethodId} {args : Array Value} {below : List Frame} {meth : Method} {c : Code} {H : Heap} {locs : List Loc} {cells slots : Nat} {Q : State → Prop} {cc : ByteArray} {pc nL : Nat} {ls : Array Slot} {rest : List Value} {own : String} {D : va_G} {cy : Nat → ClassId} {sa : Nat → Nat} {de B : Nat} {ad : Ad} {S : St} {n : Nat → Nat} {T : St} {k : Nat → Nat} {th : Int32} {X : Rl} {land : Int32}  (hC : Cx p m c cc nL s args own D cy sa de B) (hS : va_S (AB B) s.heap H locs) (hG : GW D B ad (Vw cy de ad S n T k th X) H) (h0 : WF S n)  {idx : Nat} (wl : Cond.methodLink own idx yX6_bitsOnFloor ∈ G0) (hR : 3 + 1 ≤ R.frames ∧ 8 + (4 + 11) + 64 ≤ R.locals) (hsz : ls.size = nL) (hst : (rest.map fun v => v.category).sum ≤ 8) (hdg : decode cc pc = .ok (.invokevirtual idx, 3)) (hcs : cells + 0 ≤ R.cells ∧ slots + 0 ≤ R.slots) (kk : W p l e R s m args below meth c H locs cells slots Q (F0 m (pc + 3) ls (.int (biF S land (n 0)) :: rest))) : W p l e R s m args below meth c H locs cells slots Q (F0 m pc ls (.int land :: .ref (ad 0 0 0) :: rest)) :=
  vp_callSi (va_Run.run (rV hC hS hG h0 (As := [.int land]) (c_X6_bitsOnFloor l) ⟨rfl, rfl⟩ wl im_X6_bitsOnFloor sl_X6_X6_bitsOnFloor in_X6 cd_X6_bitsOnFloor (n := 1) (by decide +kernel) hR (recv hC hG (q := (RX6, TX6, 6)) rfl V_games) rfl hsz hst rfl hdg hcs)) (fun r hr => by subst hr; exact kk)
set_option maxHeartbeats 4000000 in
set_option maxRecDepth 100000 in
theorem c_X6_putOnFloor (l : Launch) {D : va_G} {cy : Nat → ClassId} {sa : Nat → Nat} {de B : Nat} {ad : Ad} {S : St} {n : Nat → Nat} {T : St} {k : Nat → Nat} {th : Int32} {X : Rl} {land x : Int32}  : Met l yX6_putOnFloor (Cond.code yX6_putOnFloor cX6_putOnFloor 4 (Option.none : Option Jvm.ClassFile.FieldType) :: G0) ({ frames := 3, cells := 0, slots := 0, locals := 64 } : Room) (va_Pc [.ref (ad 0 0 0), .int land, .int x] (PW D cy sa de B ad (Vw cy de ad S n T k th X) (WF S n))) (oV B (fun H => GW D B ad (Vw cy de ad (puF S land x (n 0)) n T k th X) H)) 0 0 (AB B) := by
  refine E_met (own := RX6) rfl rfl (Nat.le_of_ble_eq_true rfl) ?_
  intro p e s m below meth c hC hr hlk hnm hG h0 ls hl
  have hx := hC.x
  have hb := hC.b
  have hS : va_S (AB B) s.heap s.heap [] := va_S.rf
  have hl : lo ls 4 [some (.ref (ad 0 0 0)), some (.int land), some (.int x), none] := lo_of hl
  have hW := h0
  have hW9 := hW
  obtain ⟨hB0, hB1, hB2, hB3, hB4, hB5, hB6, hB7, hKI, hEI, hKY⟩ := hW9
  
  refine lv_iconst (v := 0) hx hb dX6_putOnFloor_0 (by decide) ?_
  refine o_istore_n hx hb dX6_putOnFloor_1 hl (by decide) rfl (fun ls hl => ?_)
  have loop2 : ∀ (q9 : Nat) (y : Nat), y ≤ n 0 ∧ n 0 < y + q9 → ∀ (H : Heap) (locs : List Loc), GW D B ad (Vw cy de ad (puF S land x y) n T k th X) H → va_S (AB B) s.heap H locs → ∀ ls : Array Slot, lo ls 4 [some (.ref (ad 0 0 0)), some (.int land), some (.int x), some (.int (nI y))] → W p l e ({ frames := 3, cells := 0, slots := 0, locals := 64 } : Room) s m [.ref (ad 0 0 0), .int land, .int x].toArray below meth c H locs 0 0 (MQ below (oV B (fun H => GW D B ad (Vw cy de ad (puF S land x (n 0)) n T k th X) H)) [.ref (ad 0 0 0), .int land, .int x].toArray s 0 0 (AB B)) (F0 m 2 ls []) := by
    intro q9
    induction q9 with
    | zero => intro y hq9; exact absurd hq9 (by omega)
    | succ q9 ih2 =>
      intro y hq9  H locs hG hS ls hl
      have z5 : puF S land x y 5 = S 5 := puF_o y (by decide)
      refine o_iload_n hx hb dX6_putOnFloor_2 hl rfl ?_
      refine o_aload_n hx hb dX6_putOnFloor_3 hl rfl ?_
      refine g_get hC hG us_X6 rfl 0 (by decide) fl_X6_10 V_games rfl dX6_putOnFloor_4 ?_
      refine k_Jx4a65c_size_8abf5 (q := 0) hC hS hG (by omega) ml_X6_33 ⟨Nat.le_of_ble_eq_true rfl, Nat.le_of_ble_eq_true rfl⟩ hl.1 (Nat.le_of_ble_eq_true rfl) dX6_putOnFloor_7 ⟨Nat.le_of_ble_eq_true rfl, Nat.le_of_ble_eq_true rfl⟩ ?_
      refine n_icmp_ge (tgt := 56) hx hb y (n 0) rfl rfl (by omega) (by omega) dX6_putOnFloor_10 (by decide) (fun h10 => ?_) (fun h10 => ?_)
      · skip
        exact R_V hC hS hr hlk ((show y = n 0 by omega) ▸ hG) (Nat.le_of_ble_eq_true rfl) (Nat.le_of_ble_eq_true rfl) dX6_putOnFloor_56
      · skip
        refine o_aload_n hx hb dX6_putOnFloor_13 hl rfl ?_
        refine g_get hC hG us_X6 rfl 0 (by decide) fl_X6_10 V_games rfl dX6_putOnFloor_14 ?_
        refine o_iload_n hx hb dX6_putOnFloor_17 hl rfl ?_
        refine k_Jx4a65c_get_915e3 (q := 0) hC hS hG ⟨by omega, by omega, by omega⟩ (show elT 0 = 3 from rfl) ml_X6_185 ⟨Nat.le_of_ble_eq_true rfl, Nat.le_of_ble_eq_true rfl⟩ hl.1 (Nat.le_of_ble_eq_true rfl) dX6_putOnFloor_18 ⟨Nat.le_of_ble_eq_true rfl, Nat.le_of_ble_eq_true rfl⟩ ?_
        refine va_castS hx hb hC.o (hC.t _ cl_X6_44) (hC.K.1 1 _ rfl).2 (recv hC hG (q := (RX0, TX0, 10)) rfl (V_ath (by omega))) dX6_putOnFloor_21 ?_
        refine g_get hC hG us_X0 rfl 1 (by decide) fl_X6_138 (V_ath (by omega)) rfl dX6_putOnFloor_24 ?_
        refine o_iload_n hx hb dX6_putOnFloor_27 hl rfl ?_
        refine lv_icmp_ne (tgt := 50) hx hb dX6_putOnFloor_28 (by decide) (fun h28 => ?_) (fun h28 => ?_)
        · skip
          refine o_iinc1 hx hb dX6_putOnFloor_50 hl rfl (by decide) rfl (fun ls hl => ?_)
          refine lv_goto (tgt := 2) hx hb dX6_putOnFloor_53 (by decide) ?_
          exact ih2 (y + 1) (by omega) H locs (by first | (rw [puF_t (S := S) (land := land) (x := x) (c := y) (by rw [← z5]; exact h28), cif_t h44]; exact hG) | (rw [puF_t (S := S) (land := land) (x := x) (c := y) (by rw [← z5]; exact h28), cif_f h44]; exact hG) | (rw [puF_f (S := S) (land := land) (x := x) (c := y) (by rw [← z5]; exact h28)]; exact hG)) hS ls hl
        · skip
          refine o_aload_n hx hb dX6_putOnFloor_31 hl rfl ?_
          refine g_get hC hG us_X6 rfl 0 (by decide) fl_X6_10 V_games rfl dX6_putOnFloor_32 ?_
          refine o_iload_n hx hb dX6_putOnFloor_35 hl rfl ?_
          refine k_Jx4a65c_get_915e3 (q := 0) hC hS hG ⟨by omega, by omega, by omega⟩ (show elT 0 = 3 from rfl) ml_X6_185 ⟨Nat.le_of_ble_eq_true rfl, Nat.le_of_ble_eq_true rfl⟩ hl.1 (Nat.le_of_ble_eq_true rfl) dX6_putOnFloor_36 ⟨Nat.le_of_ble_eq_true rfl, Nat.le_of_ble_eq_true rfl⟩ ?_
          refine va_castS hx hb hC.o (hC.t _ cl_X6_44) (hC.K.1 1 _ rfl).2 (recv hC hG (q := (RX0, TX0, 10)) rfl (V_ath (by omega))) dX6_putOnFloor_39 ?_
          refine o_iload_n hx hb dX6_putOnFloor_42 hl rfl ?_
          refine o_iload_n hx hb dX6_putOnFloor_43 hl rfl ?_
          refine k_X6_hasBit hC hS hG trivial ml_X6_430 ⟨Nat.le_of_ble_eq_true rfl, Nat.le_of_ble_eq_true rfl⟩ hl.1 (Nat.le_of_ble_eq_true rfl) dX6_putOnFloor_44 ⟨Nat.le_of_ble_eq_true rfl, Nat.le_of_ble_eq_true rfl⟩ (fun h44 => ?_) (fun h44 => ?_)
          · skip
            refine g_put hC hG hS us_X0 tyX0_ok nmX0 rfl 9 (by decide) fl_X6_368 rfl (V_ath (by omega)) rfl rfl (Nat.le_of_ble_eq_true rfl) (P_ath_stands (by omega)) dX6_putOnFloor_47 (fun H locs hG hS => ?_)
            refine o_iinc1 hx hb dX6_putOnFloor_50 hl rfl (by decide) rfl (fun ls hl => ?_)
            refine lv_goto (tgt := 2) hx hb dX6_putOnFloor_53 (by decide) ?_
            exact ih2 (y + 1) (by omega) H locs (by first | (rw [puF_t (S := S) (land := land) (x := x) (c := y) (by rw [← z5]; exact h28), cif_t h44]; exact hG) | (rw [puF_t (S := S) (land := land) (x := x) (c := y) (by rw [← z5]; exact h28), cif_f h44]; exact hG) | (rw [puF_f (S := S) (land := land) (x := x) (c := y) (by rw [← z5]; exact h28)]; exact hG)) hS ls hl
          · skip
            refine g_put hC hG hS us_X0 tyX0_ok nmX0 rfl 9 (by decide) fl_X6_368 rfl (V_ath (by omega)) rfl rfl (Nat.le_of_ble_eq_true rfl) (P_ath_stands (by omega)) dX6_putOnFloor_47 (fun H locs hG hS => ?_)
            refine o_iinc1 hx hb dX6_putOnFloor_50 hl rfl (by decide) rfl (fun ls hl => ?_)
            refine lv_goto (tgt := 2) hx hb dX6_putOnFloor_53 (by decide) ?_
            exact ih2 (y + 1) (by omega) H locs (by first | (rw [puF_t (S := S) (land := land) (x := x) (c := y) (by rw [← z5]; exact h28), cif_t h44]; exact hG) | (rw [puF_t (S := S) (land := land) (x := x) (c := y) (by rw [← z5]; exact h28), cif_f h44]; exact hG) | (rw [puF_f (S := S) (land := land) (x := x) (c := y) (by rw [← z5]; exact h28)]; exact hG)) hS ls hl
  exact loop2 (n 0 + 1) 0 (by omega) s.heap [] hG hS ls hl
theorem k_X6_putOnFloor {p : Program} {l : Launch} {e : Env} {R : Room} {s : State} {m : MethodId} {args : Array Value} {below : List Frame} {meth : Method} {c : Code} {H : Heap} {locs : List Loc} {cells slots : Nat} {Q : State → Prop} {cc : ByteArray} {pc nL : Nat} {ls : Array Slot} {rest : List Value} {own : String} {D : va_G} {cy : Nat → ClassId} {sa : Nat → Nat} {de B : Nat} {ad : Ad} {S : St} {n : Nat → Nat} {T : St} {k : Nat → Nat} {th : Int32} {X : Rl} {land x : Int32}  (hC : Cx p m c cc nL s args own D cy sa de B) (hS : va_S (AB B) s.heap H locs) (hG : GW D B ad (Vw cy de ad S n T k th X) H) (h0 : WF S n)  {idx : Nat} (wl : Cond.methodLink own idx yX6_putOnFloor ∈ G0) (hR : 3 + 1 ≤ R.frames ∧ 8 + (4 + 11) + 64 ≤ R.locals) (hsz : ls.size = nL) (hst : (rest.map fun v => v.category).sum ≤ 8) (hdg : decode cc pc = .ok (.invokevirtual idx, 3)) (hcs : cells + 0 ≤ R.cells ∧ slots + 0 ≤ R.slots) (kk : ∀ (H1 : Heap) (locs1 : List Loc), ((fun H => GW D B ad (Vw cy de ad (puF S land x (n 0)) n T k th X) H)) H1 → va_S (AB B) s.heap H1 locs1 → W p l e R s m args below meth c H1 locs1 cells slots Q (F0 m (pc + 3) ls (rest))) : W p l e R s m args below meth c H locs cells slots Q (F0 m pc ls (.int x :: .int land :: .ref (ad 0 0 0) :: rest)) :=
  va_callv (rV hC hS hG h0 (As := [.int land, .int x]) (c_X6_putOnFloor l) ⟨rfl, rfl⟩ wl im_X6_putOnFloor sl_X6_X6_putOnFloor in_X6 cd_X6_putOnFloor (n := 2) (by decide +kernel) hR (recv hC hG (q := (RX6, TX6, 6)) rfl V_games) rfl hsz hst rfl hdg hcs) hS (fun _ _ h => h) (fun _ h => h) (fun u t H1 locs1 ht _ _ hB _ _ hS1 => kk H1 locs1 (by dsimp only at hB; rw [ht] at hB; exact hB) hS1)
set_option maxHeartbeats 4000000 in
set_option maxRecDepth 100000 in
theorem c_X6_needEntry (l : Launch) (hfl : l.stackTraces = false) {D : va_G} {cy : Nat → ClassId} {sa : Nat → Nat} {de B : Nat} {ad : Ad} {S : St} {n : Nat → Nat} {T : St} {k : Nat → Nat} {th : Int32} {X : Rl} {x y : Int32}  : vx_Met l yX6_needEntry (Cond.code yX6_needEntry cX6_needEntry 4 (Option.some (Jvm.ClassFile.FieldType.object "EvenstartGames$Entry")) :: G0) ({ frames := 7, cells := 3, slots := 18, locals := 103 } : Room) (va_Pc [.ref (ad 0 0 0), .int x, .int y] (PW D cy sa de B ad (Vw cy de ad S n T k th X) (WF S n ∧ NE S))) (oQ B (fun r H => (∃ (e9 : Nat) (a9 : Nat) (q9 : Nat), e9 < n 3 ∧ x = nI e9 ∧ a9 < n 0 ∧ y = nI a9 ∧ q9 < n 2 ∧ S 20 e9 a9 = nI q9 ∧ neg (S 20 e9 a9) = false ∧ r = some (ad 11 e9 a9) ∧ GW D B ad (Vw cy de ad S n T k th X) H))) (oX B (fun E H => ((E = "java/lang/IndexOutOfBoundsException" ∧ ¬ (ix x (n 3) ∧ ix y (n 0))) ∨ (E = "java/util/NoSuchElementException" ∧ ∃ e a, e < n 3 ∧ x = nI e ∧ a < n 0 ∧ y = nI a ∧ S 20 e a = -1)) ∧ GW D B ad (Vw cy de ad S n T k th X) H)) 3 18 (AB B) := by
  refine E_vx (own := RX6) rfl rfl (Nat.le_of_ble_eq_true rfl) ?_
  intro p e s m below meth c hC hr hlk hex hG h0 ls hl
  have hx := hC.x
  have hb := hC.b
  have hS : va_S (AB B) s.heap s.heap [] := va_S.rf
  have hl : lo ls 4 [some (.ref (ad 0 0 0)), some (.int x), some (.int y), none] := lo_of hl
  obtain ⟨hW, hNE⟩ := h0
  have hW9 := hW
  obtain ⟨hB0, hB1, hB2, hB3, hB4, hB5, hB6, hB7, hKI, hEI, hKY⟩ := hW9
  
  refine o_aload_n hx hb dX6_needEntry_0 hl rfl ?_
  refine o_iload_n hx hb dX6_needEntry_1 hl rfl ?_
  refine k_X6_needEvent hfl hC hS hG hW ml_X6_224 ⟨Nat.le_of_ble_eq_true rfl, Nat.le_of_ble_eq_true rfl⟩ hl.1 (Nat.le_of_ble_eq_true rfl) dX6_needEntry_2 ⟨Nat.le_of_ble_eq_true rfl, Nat.le_of_ble_eq_true rfl⟩ hex hlk (Nat.le_of_ble_eq_true rfl) (Nat.le_of_ble_eq_true rfl) (fun E H1 hE => ⟨Or.inl ⟨hE.1.1, fun z => hE.1.2 z.1⟩, hE.2⟩) (fun a2 h2_0 h2_1 H locs hG hS => ?_)
  subst h2_1
  have z2 : ci (nI a2) = a2 := nI_clamp (by omega)
  refine o_aload_n hx hb dX6_needEntry_5 hl rfl ?_
  refine o_iload_n hx hb dX6_needEntry_6 hl rfl ?_
  refine k_X6_needAthlete hfl hC hS hG hW ml_X6_53 ⟨Nat.le_of_ble_eq_true rfl, Nat.le_of_ble_eq_true rfl⟩ hl.1 (Nat.le_of_ble_eq_true rfl) dX6_needEntry_7 ⟨Nat.le_of_ble_eq_true rfl, Nat.le_of_ble_eq_true rfl⟩ hex hlk (Nat.le_of_ble_eq_true rfl) (Nat.le_of_ble_eq_true rfl) (fun E H1 hE => ⟨Or.inl ⟨hE.1.1, fun z => hE.1.2 z.2⟩, hE.2⟩) (fun a7 h7_0 h7_1 H locs hG hS => ?_)
  subst h7_1
  have z7 : ci (nI a7) = a7 := nI_clamp (by omega)
  refine k_X3_entryOf hC hS hG ⟨by omega, by omega, hW⟩ ml_X6_250 ⟨Nat.le_of_ble_eq_true rfl, Nat.le_of_ble_eq_true rfl⟩ hl.1 (Nat.le_of_ble_eq_true rfl) dX6_needEntry_10 ⟨Nat.le_of_ble_eq_true rfl, Nat.le_of_ble_eq_true rfl⟩ (fun h10_0 => ?_) (fun q10 h10_0 h10_1 h10_2 => ?_)
  · skip
    refine o_astore_nq (x := none) hx hb dX6_needEntry_13 hl (by decide) rfl (fun ls hl => ?_)
    refine o_aload_nq (x := none) hx hb dX6_needEntry_14 hl rfl ?_
    refine lv_ifnonnullN hx hb dX6_needEntry_15 ?_
    exact thrW_NS hC hfl hS hG hex hlk hl.1 (si := 32) rfl dX6_needEntry_18 dX6_needEntry_21 dX6_needEntry_22 dX6_needEntry_25 dX6_needEntry_28 (Nat.le_of_ble_eq_true rfl) (Nat.le_of_ble_eq_true rfl) (Nat.le_of_ble_eq_true rfl) (Nat.le_of_ble_eq_true rfl) (fun H1 hG1 => ⟨Or.inr ⟨rfl, _, _, h2_0, rfl, h7_0, rfl, h10_0⟩, hG1⟩) (Nat.le_of_ble_eq_true rfl) (Nat.le_of_ble_eq_true rfl)
  · skip
    refine o_astore_n hx hb dX6_needEntry_13 hl (by decide) rfl (fun ls hl => ?_)
    refine o_aload_n hx hb dX6_needEntry_14 hl rfl ?_
    refine lv_ifnonnull (tgt := 29) hx hb dX6_needEntry_15 (by decide) ?_
    refine o_aload_n hx hb dX6_needEntry_29 hl rfl ?_
    refine vx_ret ?_
    exact R_Q hC hS hr (Or.inl ⟨_, rfl⟩) (v := some (ad 11 a2 a7)) hlk (⟨_, _, q10, h2_0, rfl, h7_0, rfl, h10_0, h10_1, h10_2, rfl, hG⟩) (Nat.le_of_ble_eq_true rfl) (Nat.le_of_ble_eq_true rfl) dX6_needEntry_30
theorem k_X6_needEntry {p : Program} {l : Launch} {e : Env} {R : Room} {s : State} {m : MethodId} {args : Array Value} {below : List Frame} {meth : Method} {c : Code} {H : Heap} {locs : List Loc} {cells slots : Nat} {cc : ByteArray} {pc nL : Nat} {ls : Array Slot} {rest : List Value} {own : String} {D : va_G} {cy : Nat → ClassId} {sa : Nat → Nat} {de B : Nat} {ad : Ad} {S : St} {n : Nat → Nat} {T : St} {k : Nat → Nat} {th : Int32} {X : Rl} {x y : Int32} {mcc mss : Nat} {Qc : Array Value → State → Outcome → State → Prop} {GX : String → Heap → Prop} (hfl : l.stackTraces = false)  (hC : Cx p m c cc nL s args own D cy sa de B) (hS : va_S (AB B) s.heap H locs) (hG : GW D B ad (Vw cy de ad S n T k th X) H) (h0 : WF S n ∧ NE S)  {idx : Nat} (wl : Cond.methodLink own idx yX6_needEntry ∈ G0) (hR : 7 + 1 ≤ R.frames ∧ 8 + (4 + 11) + 103 ≤ R.locals) (hsz : ls.size = nL) (hst : (rest.map fun v => v.category).sum ≤ 8) (hdg : decode cc pc = .ok (.invokevirtual idx, 3)) (hcs : cells + 3 ≤ R.cells ∧ slots + 18 ≤ R.slots) (hex : ∀ x ∈ c.exceptionTable.toList, False) (hlk : meth.locks = false) (hmc : cells + 3 ≤ mcc) (hms : slots + 18 ≤ mss) (hxx : ∀ (E : String) (H1 : Heap), ((fun E H => ((E = "java/lang/IndexOutOfBoundsException" ∧ ¬ (ix x (n 3) ∧ ix y (n 0))) ∨ (E = "java/util/NoSuchElementException" ∧ ∃ e a, e < n 3 ∧ x = nI e ∧ a < n 0 ∧ y = nI a ∧ S 20 e a = -1)) ∧ GW D B ad (Vw cy de ad S n T k th X) H)) E H1 → GX E H1) (k0 : ∀ (e9 : Nat) (a9 : Nat) (q9 : Nat), (e9 < n 3) → (x = nI e9) → (a9 < n 0) → (y = nI a9) → (q9 < n 2) → (S 20 e9 a9 = nI q9) → (neg (S 20 e9 a9) = false) → ∀ (H1 : Heap) (locs1 : List Loc), GW D B ad (Vw cy de ad S n T k th X) H1 → va_S (AB B) s.heap H1 locs1 → W p l e R s m args below meth c H1 locs1 (cells + 3) (slots + 18) (vx_MQ below Qc (oX B GX) args s mcc mss (AB B)) (F0 m (pc + 3) ls (.ref (ad 11 e9 a9) :: rest))) : W p l e R s m args below meth c H locs cells slots (vx_MQ below Qc (oX B GX) args s mcc mss (AB B)) (F0 m pc ls (.int y :: .int x :: .ref (ad 0 0 0) :: rest)) :=
  vx_callq (xV hC hS hG h0 (As := [.int x, .int y]) (c_X6_needEntry l hfl) ⟨rfl, rfl⟩ wl im_X6_needEntry sl_X6_X6_needEntry in_X6 cd_X6_needEntry (n := 2) (by decide +kernel) hR (recv hC hG (q := (RX6, TX6, 6)) rfl V_games) rfl hsz hst rfl hdg hcs) hS (fun _ _ h => h) (fun _ h => h) (fun _ _ h => h) (fun E ce q9 u t H1 locs1 ht hv hp hB hz hq hS1 hce hcv hcl => prop_out hS1 hex hlk (hxx E H1 (by dsimp only at hB; rw [ht] at hB; exact hB)) hce hcv hcl hmc hms) (fun r u t H1 locs1 ht _ hr hB _ _ hS1 => by
      subst hr
      have hB9 := hB; try dsimp only at hB9
      rw [ht] at hB9
      rcases hB9 with ⟨e9, a9, q9, q0, q1, q2, q3, q4, q5, q6, rfl, hG1⟩
      · exact k0 e9 a9 q9 q0 q1 q2 q3 q4 q5 q6 _ _ hG1 hS1)
set_option maxHeartbeats 4000000 in
set_option maxRecDepth 100000 in
theorem c_X6_needEntryWithTime (l : Launch) (hfl : l.stackTraces = false) {D : va_G} {cy : Nat → ClassId} {sa : Nat → Nat} {de B : Nat} {ad : Ad} {S : St} {n : Nat → Nat} {T : St} {k : Nat → Nat} {th : Int32} {X : Rl} {x y : Int32}  : vx_Met l yX6_needEntryWithTime (Cond.code yX6_needEntryWithTime cX6_needEntryWithTime 4 (Option.some (Jvm.ClassFile.FieldType.object "EvenstartGames$Entry")) :: G0) ({ frames := 8, cells := 4, slots := 24, locals := 126 } : Room) (va_Pc [.ref (ad 0 0 0), .int x, .int y] (PW D cy sa de B ad (Vw cy de ad S n T k th X) (WF S n ∧ NE S))) (oQ B (fun r H => (∃ (e9 : Nat) (a9 : Nat) (q9 : Nat), e9 < n 3 ∧ x = nI e9 ∧ a9 < n 0 ∧ y = nI a9 ∧ q9 < n 2 ∧ S 20 e9 a9 = nI q9 ∧ neg (S 20 e9 a9) = false ∧ timeP S e9 a9 ∧ r = some (ad 11 e9 a9) ∧ GW D B ad (Vw cy de ad S n T k th X) H))) (oX B (fun E H => ((E = "java/lang/IndexOutOfBoundsException" ∧ ¬ (ix x (n 3) ∧ ix y (n 0))) ∨ (E = "java/util/NoSuchElementException" ∧ ∃ e a, e < n 3 ∧ x = nI e ∧ a < n 0 ∧ y = nI a ∧ ¬ timeP S e a)) ∧ GW D B ad (Vw cy de ad S n T k th X) H)) 4 24 (AB B) := by
  refine E_vx (own := RX6) rfl rfl (Nat.le_of_ble_eq_true rfl) ?_
  intro p e s m below meth c hC hr hlk hex hG h0 ls hl
  have hx := hC.x
  have hb := hC.b
  have hS : va_S (AB B) s.heap s.heap [] := va_S.rf
  have hl : lo ls 4 [some (.ref (ad 0 0 0)), some (.int x), some (.int y), none] := lo_of hl
  obtain ⟨hW, hNE⟩ := h0
  have hW9 := hW
  obtain ⟨hB0, hB1, hB2, hB3, hB4, hB5, hB6, hB7, hKI, hEI, hKY⟩ := hW9
  
  refine o_aload_n hx hb dX6_needEntryWithTime_0 hl rfl ?_
  refine o_iload_n hx hb dX6_needEntryWithTime_1 hl rfl ?_
  refine o_iload_n hx hb dX6_needEntryWithTime_2 hl rfl ?_
  refine k_X6_needEntry hfl hC hS hG ⟨hW, hNE⟩ ml_X6_310 ⟨Nat.le_of_ble_eq_true rfl, Nat.le_of_ble_eq_true rfl⟩ hl.1 (Nat.le_of_ble_eq_true rfl) dX6_needEntryWithTime_3 ⟨Nat.le_of_ble_eq_true rfl, Nat.le_of_ble_eq_true rfl⟩ hex hlk (Nat.le_of_ble_eq_true rfl) (Nat.le_of_ble_eq_true rfl) (fun E H1 hE => ⟨hE.1.elim Or.inl (fun z => Or.inr ⟨z.1, z.2.elim (fun e9 z9 => z9.elim (fun a9 z8 => ⟨e9, a9, z8.1, z8.2.1, z8.2.2.1, z8.2.2.2.1, fun t => t (hNE _ _ z8.2.2.2.2).1⟩))⟩), hE.2⟩) (fun e3 a3 q3 h3_0 h3_1 h3_2 h3_3 h3_4 h3_5 h3_6 H locs hG hS => ?_)
  subst h3_1
  subst h3_3
  refine o_astore_n hx hb dX6_needEntryWithTime_6 hl (by decide) rfl (fun ls hl => ?_)
  refine o_aload_n hx hb dX6_needEntryWithTime_7 hl rfl ?_
  refine k_X2_hasTime hC hS hG ⟨by omega, by omega, by assumption⟩ ml_X6_292 ⟨Nat.le_of_ble_eq_true rfl, Nat.le_of_ble_eq_true rfl⟩ hl.1 (Nat.le_of_ble_eq_true rfl) dX6_needEntryWithTime_8 ⟨Nat.le_of_ble_eq_true rfl, Nat.le_of_ble_eq_true rfl⟩ (fun h8 => ?_) (fun h8 => ?_)
  · skip
    refine lv_if_ne (tgt := 25) hx hb dX6_needEntryWithTime_11 (by decide) (fun h11 => ?_) (fun h11 => ?_)
    · skip
      refine o_aload_n hx hb dX6_needEntryWithTime_25 hl rfl ?_
      refine vx_ret ?_
      exact R_Q hC hS hr (Or.inl ⟨_, rfl⟩) (v := some (ad 11 e3 a3)) hlk (⟨_, _, q3, h3_0, rfl, h3_2, rfl, h3_4, h3_5, h3_6, h8, rfl, hG⟩) (Nat.le_of_ble_eq_true rfl) (Nat.le_of_ble_eq_true rfl) dX6_needEntryWithTime_26
    · exact absurd h11 (by decide)
  · skip
    refine lv_if_ne (tgt := 25) hx hb dX6_needEntryWithTime_11 (by decide) (fun h11 => ?_) (fun h11 => ?_)
    · exact absurd h11 (by decide)
    · skip
      exact thrW_NS hC hfl hS hG hex hlk hl.1 (si := 33) rfl dX6_needEntryWithTime_14 dX6_needEntryWithTime_17 dX6_needEntryWithTime_18 dX6_needEntryWithTime_21 dX6_needEntryWithTime_24 (Nat.le_of_ble_eq_true rfl) (Nat.le_of_ble_eq_true rfl) (Nat.le_of_ble_eq_true rfl) (Nat.le_of_ble_eq_true rfl) (fun H1 hG1 => ⟨Or.inr ⟨rfl, _, _, h3_0, rfl, h3_2, rfl, h8⟩, hG1⟩) (Nat.le_of_ble_eq_true rfl) (Nat.le_of_ble_eq_true rfl)
theorem k_X6_needEntryWithTime {p : Program} {l : Launch} {e : Env} {R : Room} {s : State} {m : MethodId} {args : Array Value} {below : List Frame} {meth : Method} {c : Code} {H : Heap} {locs : List Loc} {cells slots : Nat} {cc : ByteArray} {pc nL : Nat} {ls : Array Slot} {rest : List Value} {own : String} {D : va_G} {cy : Nat → ClassId} {sa : Nat → Nat} {de B : Nat} {ad : Ad} {S : St} {n : Nat → Nat} {T : St} {k : Nat → Nat} {th : Int32} {X : Rl} {x y : Int32} {mcc mss : Nat} {Qc : Array Value → State → Outcome → State → Prop} {GX : String → Heap → Prop} (hfl : l.stackTraces = false)  (hC : Cx p m c cc nL s args own D cy sa de B) (hS : va_S (AB B) s.heap H locs) (hG : GW D B ad (Vw cy de ad S n T k th X) H) (h0 : WF S n ∧ NE S)  {idx : Nat} (wl : Cond.methodLink own idx yX6_needEntryWithTime ∈ G0) (hR : 8 + 1 ≤ R.frames ∧ 8 + (4 + 11) + 126 ≤ R.locals) (hsz : ls.size = nL) (hst : (rest.map fun v => v.category).sum ≤ 8) (hdg : decode cc pc = .ok (.invokevirtual idx, 3)) (hcs : cells + 4 ≤ R.cells ∧ slots + 24 ≤ R.slots) (hex : ∀ x ∈ c.exceptionTable.toList, False) (hlk : meth.locks = false) (hmc : cells + 4 ≤ mcc) (hms : slots + 24 ≤ mss) (hxx : ∀ (E : String) (H1 : Heap), ((fun E H => ((E = "java/lang/IndexOutOfBoundsException" ∧ ¬ (ix x (n 3) ∧ ix y (n 0))) ∨ (E = "java/util/NoSuchElementException" ∧ ∃ e a, e < n 3 ∧ x = nI e ∧ a < n 0 ∧ y = nI a ∧ ¬ timeP S e a)) ∧ GW D B ad (Vw cy de ad S n T k th X) H)) E H1 → GX E H1) (k0 : ∀ (e9 : Nat) (a9 : Nat) (q9 : Nat), (e9 < n 3) → (x = nI e9) → (a9 < n 0) → (y = nI a9) → (q9 < n 2) → (S 20 e9 a9 = nI q9) → (neg (S 20 e9 a9) = false) → (timeP S e9 a9) → ∀ (H1 : Heap) (locs1 : List Loc), GW D B ad (Vw cy de ad S n T k th X) H1 → va_S (AB B) s.heap H1 locs1 → W p l e R s m args below meth c H1 locs1 (cells + 4) (slots + 24) (vx_MQ below Qc (oX B GX) args s mcc mss (AB B)) (F0 m (pc + 3) ls (.ref (ad 11 e9 a9) :: rest))) : W p l e R s m args below meth c H locs cells slots (vx_MQ below Qc (oX B GX) args s mcc mss (AB B)) (F0 m pc ls (.int y :: .int x :: .ref (ad 0 0 0) :: rest)) :=
  vx_callq (xV hC hS hG h0 (As := [.int x, .int y]) (c_X6_needEntryWithTime l hfl) ⟨rfl, rfl⟩ wl im_X6_needEntryWithTime sl_X6_X6_needEntryWithTime in_X6 cd_X6_needEntryWithTime (n := 2) (by decide +kernel) hR (recv hC hG (q := (RX6, TX6, 6)) rfl V_games) rfl hsz hst rfl hdg hcs) hS (fun _ _ h => h) (fun _ h => h) (fun _ _ h => h) (fun E ce q9 u t H1 locs1 ht hv hp hB hz hq hS1 hce hcv hcl => prop_out hS1 hex hlk (hxx E H1 (by dsimp only at hB; rw [ht] at hB; exact hB)) hce hcv hcl hmc hms) (fun r u t H1 locs1 ht _ hr hB _ _ hS1 => by
      subst hr
      have hB9 := hB; try dsimp only at hB9
      rw [ht] at hB9
      rcases hB9 with ⟨e9, a9, q9, q0, q1, q2, q3, q4, q5, q6, q7, rfl, hG1⟩
      · exact k0 e9 a9 q9 q0 q1 q2 q3 q4 q5 q6 q7 _ _ hG1 hS1)
