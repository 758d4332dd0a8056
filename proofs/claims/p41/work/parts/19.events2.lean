set_option maxHeartbeats 4000000 in
set_option maxRecDepth 100000 in
theorem c_X0_isInOrder (l : Launch) {D : va_G} {cy : Nat → ClassId} {sa : Nat → Nat} {de B : Nat} {ad : Ad} {S : St} {n : Nat → Nat} {T : St} {k : Nat → Nat} {th : Int32} {X : Rl} {i : Nat}  : Met l yX0_isInOrder (Cond.code yX0_isInOrder cX0_isInOrder 1 (Option.some Jvm.ClassFile.FieldType.boolean) :: G0) ({ frames := 3, cells := 0, slots := 0, locals := 64 } : Room) (va_Pc [.ref (ad 3 i 0)] (PW D cy sa de B ad (Vw cy de ad S n T k th X) (i < n 4 ∧ WF S n))) (vp_Si (fun r => (r = 1 ∧ okA S i) ∨ (r = 0 ∧ ¬ okA S i))) 0 0 (fun _ => False) := by
  refine E_met (own := RX0) rfl rfl (Nat.le_of_ble_eq_true rfl) ?_
  intro p e s m below meth c hC hr hlk hnm hG h0 ls hl
  have hx := hC.x
  have hb := hC.b
  have hS : va_S (AB B) s.heap s.heap [] := va_S.rf
  have hl : lo ls 1 [some (.ref (ad 3 i 0))] := lo_of hl
  obtain ⟨hi, hW⟩ := h0
  have hW9 := hW
  obtain ⟨hB0, hB1, hB2, hB3, hB4, hB5, hB6, hB7, hKI, hEI, hKY⟩ := hW9
  rcases hKI i (by omega) with hk | ⟨q0, hq0, hk⟩
  · skip
    skip
    refine o_aload_n hx hb dX0_isInOrder_0 hl rfl ?_
    refine g_get hC hG us_X0 rfl 6 (by decide) fl_X0_26 (V_ath (by omega)) rfl dX0_isInOrder_1 ?_
    refine lv_bipush (v := 99) hx hb dX0_isInOrder_4 (by decide) ?_
    refine lv_icmp_ne (tgt := 32) hx hb dX0_isInOrder_6 (by decide) (fun h6 => ?_) (fun h6 => ?_)
    · skip
      refine o_aload_n hx hb dX0_isInOrder_32 hl rfl ?_
      refine g_get hC hG us_X0 rfl 9 (by decide) fl_X0_63 (V_ath (by omega)) rfl dX0_isInOrder_33 ?_
      refine lv_if_eq (tgt := 57) hx hb dX0_isInOrder_36 (by decide) (fun h36 => ?_) (fun h36 => ?_)
      · skip
        refine o_aload_n hx hb dX0_isInOrder_57 hl rfl ?_
        refine g_get hC hG us_X0 rfl 7 (by decide) fl_X0_52 (V_ath (by omega)) rfl dX0_isInOrder_58 ?_
        rw [kro_null (show _ = -1 by exact hk)]
        refine lv_ifnullN (tgt := 71) hx hb dX0_isInOrder_61 (by decide) ?_
        refine lv_iconst (v := 1) hx hb dX0_isInOrder_71 (by decide) ?_
        refine lv_goto (tgt := 76) hx hb dX0_isInOrder_72 (by decide) ?_
        exact R_i hC hr hlk rfl (by first | exact Or.inl ⟨rfl, (by first | exact fun z => h6 z.1 | exact fun z => z.2 q0 (by omega) hk h24), (by first | exact fun z => z.1 h36 | exact fun z => z.2.elim h45 (fun h => nI_ne_m1 (by omega) (hk.symm.trans h))), Or.inl hk⟩ | exact Or.inl ⟨rfl, (by first | exact fun z => h6 z.1 | exact fun z => z.2 q0 (by omega) hk h24), (by first | exact fun z => z.1 h36 | exact fun z => z.2.elim h45 (fun h => nI_ne_m1 (by omega) (hk.symm.trans h))), Or.inr h65⟩ | exact Or.inr ⟨rfl, fun z => z.2.2.elim (fun h => nI_ne_m1 (by omega) (hk.symm.trans h)) h65⟩) dX0_isInOrder_76
      · skip
        refine o_aload_n hx hb dX0_isInOrder_39 hl rfl ?_
        refine g_get hC hG us_X0 rfl 6 (by decide) fl_X0_26 (V_ath (by omega)) rfl dX0_isInOrder_40 ?_
        refine lv_bipush (v := 120) hx hb dX0_isInOrder_43 (by decide) ?_
        refine lv_icmp_eq (tgt := 55) hx hb dX0_isInOrder_45 (by decide) (fun h45 => ?_) (fun h45 => ?_)
        · skip
          refine lv_iconst (v := 0) hx hb dX0_isInOrder_55 (by decide) ?_
          exact R_i hC hr hlk rfl (by first | exact Or.inr ⟨rfl, fun z => z.2.1 ⟨h36, Or.inl h45⟩⟩ | exact Or.inr ⟨rfl, fun z => z.2.1 ⟨h36, Or.inr hk⟩⟩) dX0_isInOrder_56
        · skip
          refine o_aload_n hx hb dX0_isInOrder_48 hl rfl ?_
          refine g_get hC hG us_X0 rfl 7 (by decide) fl_X0_52 (V_ath (by omega)) rfl dX0_isInOrder_49 ?_
          rw [kro_null (show _ = -1 by exact hk)]
          refine lv_ifnonnullN hx hb dX0_isInOrder_52 ?_
          refine lv_iconst (v := 0) hx hb dX0_isInOrder_55 (by decide) ?_
          exact R_i hC hr hlk rfl (by first | exact Or.inr ⟨rfl, fun z => z.2.1 ⟨h36, Or.inl h45⟩⟩ | exact Or.inr ⟨rfl, fun z => z.2.1 ⟨h36, Or.inr hk⟩⟩) dX0_isInOrder_56
    · skip
      refine o_aload_n hx hb dX0_isInOrder_9 hl rfl ?_
      refine g_get hC hG us_X0 rfl 7 (by decide) fl_X0_52 (V_ath (by omega)) rfl dX0_isInOrder_10 ?_
      rw [kro_null (show _ = -1 by exact hk)]
      refine lv_ifnullN (tgt := 30) hx hb dX0_isInOrder_13 (by decide) ?_
      refine lv_iconst (v := 0) hx hb dX0_isInOrder_30 (by decide) ?_
      exact R_i hC hr hlk rfl (by first | exact Or.inr ⟨rfl, fun z => z.1 ⟨h6, fun q hq hq2 => absurd (hq2.symm.trans hk) (nI_ne_m1 (by omega))⟩⟩ | exact Or.inr ⟨rfl, fun z => z.1 ⟨h6, fun q hq hq2 => by rw [(nI_eq (by omega) (by omega)).mp (hq2.symm.trans hk)]; exact h24⟩⟩) dX0_isInOrder_31
  · skip
    obtain ⟨a, ha5, hka⟩ := hKY q0 (by omega)
    refine o_aload_n hx hb dX0_isInOrder_0 hl rfl ?_
    refine g_get hC hG us_X0 rfl 6 (by decide) fl_X0_26 (V_ath (by omega)) rfl dX0_isInOrder_1 ?_
    refine lv_bipush (v := 99) hx hb dX0_isInOrder_4 (by decide) ?_
    refine lv_icmp_ne (tgt := 32) hx hb dX0_isInOrder_6 (by decide) (fun h6 => ?_) (fun h6 => ?_)
    · skip
      refine o_aload_n hx hb dX0_isInOrder_32 hl rfl ?_
      refine g_get hC hG us_X0 rfl 9 (by decide) fl_X0_63 (V_ath (by omega)) rfl dX0_isInOrder_33 ?_
      refine lv_if_eq (tgt := 57) hx hb dX0_isInOrder_36 (by decide) (fun h36 => ?_) (fun h36 => ?_)
      · skip
        refine o_aload_n hx hb dX0_isInOrder_57 hl rfl ?_
        refine g_get hC hG us_X0 rfl 7 (by decide) fl_X0_52 (V_ath (by omega)) rfl dX0_isInOrder_58 ?_
        rw [kro_ref (show _ = nI q0 by exact hk) (by omega)]
        refine lv_ifnull hx hb dX0_isInOrder_61 ?_
        refine o_aload_n hx hb dX0_isInOrder_64 hl rfl ?_
        refine k_X0_mayCompete hC hS hG (by omega) ml_X0_66 ⟨Nat.le_of_ble_eq_true rfl, Nat.le_of_ble_eq_true rfl⟩ hl.1 (Nat.le_of_ble_eq_true rfl) dX0_isInOrder_65 ⟨Nat.le_of_ble_eq_true rfl, Nat.le_of_ble_eq_true rfl⟩ (fun h65 => ?_) (fun h65 => ?_)
        · skip
          refine lv_if_eq (tgt := 75) hx hb dX0_isInOrder_68 (by decide) (fun h68 => ?_) (fun h68 => ?_)
          · exact absurd h68 (by decide)
          · skip
            refine lv_iconst (v := 1) hx hb dX0_isInOrder_71 (by decide) ?_
            refine lv_goto (tgt := 76) hx hb dX0_isInOrder_72 (by decide) ?_
            exact R_i hC hr hlk rfl (by first | exact Or.inl ⟨rfl, (by first | exact fun z => h6 z.1 | exact fun z => z.2 q0 (by omega) hk h24), (by first | exact fun z => z.1 h36 | exact fun z => z.2.elim h45 (fun h => nI_ne_m1 (by omega) (hk.symm.trans h))), Or.inl hk⟩ | exact Or.inl ⟨rfl, (by first | exact fun z => h6 z.1 | exact fun z => z.2 q0 (by omega) hk h24), (by first | exact fun z => z.1 h36 | exact fun z => z.2.elim h45 (fun h => nI_ne_m1 (by omega) (hk.symm.trans h))), Or.inr h65⟩ | exact Or.inr ⟨rfl, fun z => z.2.2.elim (fun h => nI_ne_m1 (by omega) (hk.symm.trans h)) h65⟩) dX0_isInOrder_76
        · skip
          refine lv_if_eq (tgt := 75) hx hb dX0_isInOrder_68 (by decide) (fun h68 => ?_) (fun h68 => ?_)
          · skip
            refine lv_iconst (v := 0) hx hb dX0_isInOrder_75 (by decide) ?_
            exact R_i hC hr hlk rfl (by first | exact Or.inl ⟨rfl, (by first | exact fun z => h6 z.1 | exact fun z => z.2 q0 (by omega) hk h24), (by first | exact fun z => z.1 h36 | exact fun z => z.2.elim h45 (fun h => nI_ne_m1 (by omega) (hk.symm.trans h))), Or.inl hk⟩ | exact Or.inl ⟨rfl, (by first | exact fun z => h6 z.1 | exact fun z => z.2 q0 (by omega) hk h24), (by first | exact fun z => z.1 h36 | exact fun z => z.2.elim h45 (fun h => nI_ne_m1 (by omega) (hk.symm.trans h))), Or.inr h65⟩ | exact Or.inr ⟨rfl, fun z => z.2.2.elim (fun h => nI_ne_m1 (by omega) (hk.symm.trans h)) h65⟩) dX0_isInOrder_76
          · exact absurd h68 (by decide)
      · skip
        refine o_aload_n hx hb dX0_isInOrder_39 hl rfl ?_
        refine g_get hC hG us_X0 rfl 6 (by decide) fl_X0_26 (V_ath (by omega)) rfl dX0_isInOrder_40 ?_
        refine lv_bipush (v := 120) hx hb dX0_isInOrder_43 (by decide) ?_
        refine lv_icmp_eq (tgt := 55) hx hb dX0_isInOrder_45 (by decide) (fun h45 => ?_) (fun h45 => ?_)
        · skip
          refine lv_iconst (v := 0) hx hb dX0_isInOrder_55 (by decide) ?_
          exact R_i hC hr hlk rfl (by first | exact Or.inr ⟨rfl, fun z => z.2.1 ⟨h36, Or.inl h45⟩⟩ | exact Or.inr ⟨rfl, fun z => z.2.1 ⟨h36, Or.inr hk⟩⟩) dX0_isInOrder_56
        · skip
          refine o_aload_n hx hb dX0_isInOrder_48 hl rfl ?_
          refine g_get hC hG us_X0 rfl 7 (by decide) fl_X0_52 (V_ath (by omega)) rfl dX0_isInOrder_49 ?_
          rw [kro_ref (show _ = nI q0 by exact hk) (by omega)]
          refine lv_ifnonnull (tgt := 57) hx hb dX0_isInOrder_52 (by decide) ?_
          refine o_aload_n hx hb dX0_isInOrder_57 hl rfl ?_
          refine g_get hC hG us_X0 rfl 7 (by decide) fl_X0_52 (V_ath (by omega)) rfl dX0_isInOrder_58 ?_
          rw [kro_ref (show _ = nI q0 by exact hk) (by omega)]
          refine lv_ifnull hx hb dX0_isInOrder_61 ?_
          refine o_aload_n hx hb dX0_isInOrder_64 hl rfl ?_
          refine k_X0_mayCompete hC hS hG (by omega) ml_X0_66 ⟨Nat.le_of_ble_eq_true rfl, Nat.le_of_ble_eq_true rfl⟩ hl.1 (Nat.le_of_ble_eq_true rfl) dX0_isInOrder_65 ⟨Nat.le_of_ble_eq_true rfl, Nat.le_of_ble_eq_true rfl⟩ (fun h65 => ?_) (fun h65 => ?_)
          · skip
            refine lv_if_eq (tgt := 75) hx hb dX0_isInOrder_68 (by decide) (fun h68 => ?_) (fun h68 => ?_)
            · exact absurd h68 (by decide)
            · skip
              refine lv_iconst (v := 1) hx hb dX0_isInOrder_71 (by decide) ?_
              refine lv_goto (tgt := 76) hx hb dX0_isInOrder_72 (by decide) ?_
              exact R_i hC hr hlk rfl (by first | exact Or.inl ⟨rfl, (by first | exact fun z => h6 z.1 | exact fun z => z.2 q0 (by omega) hk h24), (by first | exact fun z => z.1 h36 | exact fun z => z.2.elim h45 (fun h => nI_ne_m1 (by omega) (hk.symm.trans h))), Or.inl hk⟩ | exact Or.inl ⟨rfl, (by first | exact fun z => h6 z.1 | exact fun z => z.2 q0 (by omega) hk h24), (by first | exact fun z => z.1 h36 | exact fun z => z.2.elim h45 (fun h => nI_ne_m1 (by omega) (hk.symm.trans h))), Or.inr h65⟩ | exact Or.inr ⟨rfl, fun z => z.2.2.elim (fun h => nI_ne_m1 (by omega) (hk.symm.trans h)) h65⟩) dX0_isInOrder_76
          · skip
            refine lv_if_eq (tgt := 75) hx hb dX0_isInOrder_68 (by decide) (fun h68 => ?_) (fun h68 => ?_)
            · skip
              refine lv_iconst (v := 0) hx hb dX0_isInOrder_75 (by decide) ?_
              exact R_i hC hr hlk rfl (by first | exact Or.inl ⟨rfl, (by first | exact fun z => h6 z.1 | exact fun z => z.2 q0 (by omega) hk h24), (by first | exact fun z => z.1 h36 | exact fun z => z.2.elim h45 (fun h => nI_ne_m1 (by omega) (hk.symm.trans h))), Or.inl hk⟩ | exact Or.inl ⟨rfl, (by first | exact fun z => h6 z.1 | exact fun z => z.2 q0 (by omega) hk h24), (by first | exact fun z => z.1 h36 | exact fun z => z.2.elim h45 (fun h => nI_ne_m1 (by omega) (hk.symm.trans h))), Or.inr h65⟩ | exact Or.inr ⟨rfl, fun z => z.2.2.elim (fun h => nI_ne_m1 (by omega) (hk.symm.trans h)) h65⟩) dX0_isInOrder_76
            · exact absurd h68 (by decide)
    · skip
      refine o_aload_n hx hb dX0_isInOrder_9 hl rfl ?_
      refine g_get hC hG us_X0 rfl 7 (by decide) fl_X0_52 (V_ath (by omega)) rfl dX0_isInOrder_10 ?_
      rw [kro_ref (show _ = nI q0 by exact hk) (by omega)]
      refine lv_ifnull hx hb dX0_isInOrder_13 ?_
      refine o_aload_n hx hb dX0_isInOrder_16 hl rfl ?_
      refine g_get hC hG us_X0 rfl 7 (by decide) fl_X0_52 (V_ath (by omega)) rfl dX0_isInOrder_17 ?_
      rw [kro_ref (show _ = nI q0 by exact hk) (by omega)]
      refine o_aload_n hx hb dX0_isInOrder_20 hl rfl ?_
      refine g_get hC hG us_X0 rfl 4 (by decide) fl_X0_23 (V_ath (by omega)) rfl dX0_isInOrder_21 ?_
      refine k_X4_holds hC hS hG ⟨by omega, by omega, by omega, by omega, by assumption⟩ ml_X0_59 ⟨Nat.le_of_ble_eq_true rfl, Nat.le_of_ble_eq_true rfl⟩ hl.1 (Nat.le_of_ble_eq_true rfl) dX0_isInOrder_24 ⟨Nat.le_of_ble_eq_true rfl, Nat.le_of_ble_eq_true rfl⟩ (fun h24 => ?_) (fun h24 => ?_)
      · skip
        refine lv_if_ne (tgt := 32) hx hb dX0_isInOrder_27 (by decide) (fun h27 => ?_) (fun h27 => ?_)
        · skip
          refine o_aload_n hx hb dX0_isInOrder_32 hl rfl ?_
          refine g_get hC hG us_X0 rfl 9 (by decide) fl_X0_63 (V_ath (by omega)) rfl dX0_isInOrder_33 ?_
          refine lv_if_eq (tgt := 57) hx hb dX0_isInOrder_36 (by decide) (fun h36 => ?_) (fun h36 => ?_)
          · skip
            refine o_aload_n hx hb dX0_isInOrder_57 hl rfl ?_
            refine g_get hC hG us_X0 rfl 7 (by decide) fl_X0_52 (V_ath (by omega)) rfl dX0_isInOrder_58 ?_
            rw [kro_ref (show _ = nI q0 by exact hk) (by omega)]
            refine lv_ifnull hx hb dX0_isInOrder_61 ?_
            refine o_aload_n hx hb dX0_isInOrder_64 hl rfl ?_
            refine k_X0_mayCompete hC hS hG (by omega) ml_X0_66 ⟨Nat.le_of_ble_eq_true rfl, Nat.le_of_ble_eq_true rfl⟩ hl.1 (Nat.le_of_ble_eq_true rfl) dX0_isInOrder_65 ⟨Nat.le_of_ble_eq_true rfl, Nat.le_of_ble_eq_true rfl⟩ (fun h65 => ?_) (fun h65 => ?_)
            · skip
              refine lv_if_eq (tgt := 75) hx hb dX0_isInOrder_68 (by decide) (fun h68 => ?_) (fun h68 => ?_)
              · exact absurd h68 (by decide)
              · skip
                refine lv_iconst (v := 1) hx hb dX0_isInOrder_71 (by decide) ?_
                refine lv_goto (tgt := 76) hx hb dX0_isInOrder_72 (by decide) ?_
                exact R_i hC hr hlk rfl (by first | exact Or.inl ⟨rfl, (by first | exact fun z => h6 z.1 | exact fun z => z.2 q0 (by omega) hk h24), (by first | exact fun z => z.1 h36 | exact fun z => z.2.elim h45 (fun h => nI_ne_m1 (by omega) (hk.symm.trans h))), Or.inl hk⟩ | exact Or.inl ⟨rfl, (by first | exact fun z => h6 z.1 | exact fun z => z.2 q0 (by omega) hk h24), (by first | exact fun z => z.1 h36 | exact fun z => z.2.elim h45 (fun h => nI_ne_m1 (by omega) (hk.symm.trans h))), Or.inr h65⟩ | exact Or.inr ⟨rfl, fun z => z.2.2.elim (fun h => nI_ne_m1 (by omega) (hk.symm.trans h)) h65⟩) dX0_isInOrder_76
            · skip
              refine lv_if_eq (tgt := 75) hx hb dX0_isInOrder_68 (by decide) (fun h68 => ?_) (fun h68 => ?_)
              · skip
                refine lv_iconst (v := 0) hx hb dX0_isInOrder_75 (by decide) ?_
                exact R_i hC hr hlk rfl (by first | exact Or.inl ⟨rfl, (by first | exact fun z => h6 z.1 | exact fun z => z.2 q0 (by omega) hk h24), (by first | exact fun z => z.1 h36 | exact fun z => z.2.elim h45 (fun h => nI_ne_m1 (by omega) (hk.symm.trans h))), Or.inl hk⟩ | exact Or.inl ⟨rfl, (by first | exact fun z => h6 z.1 | exact fun z => z.2 q0 (by omega) hk h24), (by first | exact fun z => z.1 h36 | exact fun z => z.2.elim h45 (fun h => nI_ne_m1 (by omega) (hk.symm.trans h))), Or.inr h65⟩ | exact Or.inr ⟨rfl, fun z => z.2.2.elim (fun h => nI_ne_m1 (by omega) (hk.symm.trans h)) h65⟩) dX0_isInOrder_76
              · exact absurd h68 (by decide)
          · skip
            refine o_aload_n hx hb dX0_isInOrder_39 hl rfl ?_
            refine g_get hC hG us_X0 rfl 6 (by decide) fl_X0_26 (V_ath (by omega)) rfl dX0_isInOrder_40 ?_
            refine lv_bipush (v := 120) hx hb dX0_isInOrder_43 (by decide) ?_
            refine lv_icmp_eq (tgt := 55) hx hb dX0_isInOrder_45 (by decide) (fun h45 => ?_) (fun h45 => ?_)
            · skip
              refine lv_iconst (v := 0) hx hb dX0_isInOrder_55 (by decide) ?_
              exact R_i hC hr hlk rfl (by first | exact Or.inr ⟨rfl, fun z => z.2.1 ⟨h36, Or.inl h45⟩⟩ | exact Or.inr ⟨rfl, fun z => z.2.1 ⟨h36, Or.inr hk⟩⟩) dX0_isInOrder_56
            · skip
              refine o_aload_n hx hb dX0_isInOrder_48 hl rfl ?_
              refine g_get hC hG us_X0 rfl 7 (by decide) fl_X0_52 (V_ath (by omega)) rfl dX0_isInOrder_49 ?_
              rw [kro_ref (show _ = nI q0 by exact hk) (by omega)]
              refine lv_ifnonnull (tgt := 57) hx hb dX0_isInOrder_52 (by decide) ?_
              refine o_aload_n hx hb dX0_isInOrder_57 hl rfl ?_
              refine g_get hC hG us_X0 rfl 7 (by decide) fl_X0_52 (V_ath (by omega)) rfl dX0_isInOrder_58 ?_
              rw [kro_ref (show _ = nI q0 by exact hk) (by omega)]
              refine lv_ifnull hx hb dX0_isInOrder_61 ?_
              refine o_aload_n hx hb dX0_isInOrder_64 hl rfl ?_
              refine k_X0_mayCompete hC hS hG (by omega) ml_X0_66 ⟨Nat.le_of_ble_eq_true rfl, Nat.le_of_ble_eq_true rfl⟩ hl.1 (Nat.le_of_ble_eq_true rfl) dX0_isInOrder_65 ⟨Nat.le_of_ble_eq_true rfl, Nat.le_of_ble_eq_true rfl⟩ (fun h65 => ?_) (fun h65 => ?_)
              · skip
                refine lv_if_eq (tgt := 75) hx hb dX0_isInOrder_68 (by decide) (fun h68 => ?_) (fun h68 => ?_)
                · exact absurd h68 (by decide)
                · skip
                  refine lv_iconst (v := 1) hx hb dX0_isInOrder_71 (by decide) ?_
                  refine lv_goto (tgt := 76) hx hb dX0_isInOrder_72 (by decide) ?_
                  exact R_i hC hr hlk rfl (by first | exact Or.inl ⟨rfl, (by first | exact fun z => h6 z.1 | exact fun z => z.2 q0 (by omega) hk h24), (by first | exact fun z => z.1 h36 | exact fun z => z.2.elim h45 (fun h => nI_ne_m1 (by omega) (hk.symm.trans h))), Or.inl hk⟩ | exact Or.inl ⟨rfl, (by first | exact fun z => h6 z.1 | exact fun z => z.2 q0 (by omega) hk h24), (by first | exact fun z => z.1 h36 | exact fun z => z.2.elim h45 (fun h => nI_ne_m1 (by omega) (hk.symm.trans h))), Or.inr h65⟩ | exact Or.inr ⟨rfl, fun z => z.2.2.elim (fun h => nI_ne_m1 (by omega) (hk.symm.trans h)) h65⟩) dX0_isInOrder_76
              · skip
                refine lv_if_eq (tgt := 75) hx hb dX0_isInOrder_68 (by decide) (fun h68 => ?_) (fun h68 => ?_)
                · skip
                  refine lv_iconst (v := 0) hx hb dX0_isInOrder_75 (by decide) ?_
                  exact R_i hC hr hlk rfl (by first | exact Or.inl ⟨rfl, (by first | exact fun z => h6 z.1 | exact fun z => z.2 q0 (by omega) hk h24), (by first | exact fun z => z.1 h36 | exact fun z => z.2.elim h45 (fun h => nI_ne_m1 (by omega) (hk.symm.trans h))), Or.inl hk⟩ | exact Or.inl ⟨rfl, (by first | exact fun z => h6 z.1 | exact fun z => z.2 q0 (by omega) hk h24), (by first | exact fun z => z.1 h36 | exact fun z => z.2.elim h45 (fun h => nI_ne_m1 (by omega) (hk.symm.trans h))), Or.inr h65⟩ | exact Or.inr ⟨rfl, fun z => z.2.2.elim (fun h => nI_ne_m1 (by omega) (hk.symm.trans h)) h65⟩) dX0_isInOrder_76
                · exact absurd h68 (by decide)
        · exact absurd h27 (by decide)
      · skip
        refine lv_if_ne (tgt := 32) hx hb dX0_isInOrder_27 (by decide) (fun h27 => ?_) (fun h27 => ?_)
        · exact absurd h27 (by decide)
        · skip
          refine lv_iconst (v := 0) hx hb dX0_isInOrder_30 (by decide) ?_
          exact R_i hC hr hlk rfl (by first | exact Or.inr ⟨rfl, fun z => z.1 ⟨h6, fun q hq hq2 => absurd (hq2.symm.trans hk) (nI_ne_m1 (by omega))⟩⟩ | exact Or.inr ⟨rfl, fun z => z.1 ⟨h6, fun q hq hq2 => by rw [(nI_eq (by omega) (by omega)).mp (hq2.symm.trans hk)]; exact h24⟩⟩) dX0_isInOrder_31
theorem k_X0_isInOrder {p : Program} {l : Launch} {e : Env} {R : Room} {s : State} {m : MethodId} {args : Array Value} {below : List Frame} {meth : Method} {c : Code} {H : Heap} {locs : List Loc} {cells slots : Nat} {Q : State → Prop} {cc : ByteArray} {pc nL : Nat} {ls : Array Slot} {rest : List Value} {own : String} {D : va_G} {cy : Nat → ClassId} {sa : Nat → Nat} {de B : Nat} {ad : Ad} {S : St} {n : Nat → Nat} {T : St} {k : Nat → Nat} {th : Int32} {X : Rl} {i : Nat}  (hC : Cx p m c cc nL s args own D cy sa de B) (hS : va_S (AB B) s.heap H locs) (hG : GW D B ad (Vw cy de ad S n T k th X) H) (h0 : i < n 4 ∧ WF S n)  {idx : Nat} (wl : Cond.methodLink own idx yX0_isInOrder ∈ G0) (hR : 3 + 1 ≤ R.frames ∧ 8 + (1 + 11) + 64 ≤ R.locals) (hsz : ls.size = nL) (hst : (rest.map fun v => v.category).sum ≤ 8) (hdg : decode cc pc = .ok (.invokevirtual idx, 3)) (hcs : cells + 0 ≤ R.cells ∧ slots + 0 ≤ R.slots) (kt : (okA S i) → W p l e R s m args below meth c H locs cells slots Q (F0 m (pc + 3) ls (.int 1 :: rest))) (kf : ¬ (okA S i) → W p l e R s m args below meth c H locs cells slots Q (F0 m (pc + 3) ls (.int 0 :: rest))) : W p l e R s m args below meth c H locs cells slots Q (F0 m pc ls (.ref (ad 3 i 0) :: rest)) :=
  vp_callSi (va_Run.run (rV hC hS hG h0 (As := []) (c_X0_isInOrder l) ⟨rfl, rfl⟩ wl im_X0_isInOrder sl_X0_X0_isInOrder in_X0 cd_X0_isInOrder (n := 0) (by decide +kernel) hR (recv hC hG (q := (RX0, TX0, 10)) rfl (V_ath h0.1)) rfl hsz hst rfl hdg hcs)) (fun r hr => by rcases hr with ⟨rfl, hp⟩ | ⟨rfl, hp⟩; exact kt hp; exact kf hp)
